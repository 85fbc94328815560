/-! ===== STEPS: numbers, locals, operands, branches =====
A step gives the places that come next, each with its state. -/
abbrev sp_L : Type := List (Nat × as_T)
def q_new (A : as_T) (a : av_T) (d : Option (Nat × Int)) : as_T := (A.1 ++ [(a, d)], A.2.1, A.1.length :: A.2.2.1, A.2.2.2)
def q_stk (A : as_T) (s : List Nat) : as_T := (A.1, A.2.1, s, A.2.2.2)
def q_av (A : as_T) (i : Nat) (k : Nat) : Option av_T := match A.1[i]? with
  | some q => if q.1.1 = k then some q.1 else none
  | none => none
/-- a number as another one's more -/
def q_lin (e : List en_E) (i : Nat) (o : Int) : Nat × Int := match e[i]? with
  | some (_, some (b, o')) => (b, o' + o)
  | _ => (i, o)
def q_i2 (f : av_T → av_T → av_T) (A : as_T) : Option as_T := match A.2.2.1 with
  | j :: i :: s => match q_av A i 0, q_av A j 0 with
    | some a, some b => some (q_new (q_stk A s) (f a b) none)
    | _, _ => none
  | _ => none
/-- a relation noted, where the writes are -/
def q_rel (A : as_T) (c n i j : Nat) : as_T := match A.2.2.2.2.2.2.2.2 with
  | some _ => (A.1, A.2.1, A.2.2.1, A.2.2.2.1, A.2.2.2.2.1, (100000 * c + n, i, j) :: A.2.2.2.2.2.1, A.2.2.2.2.2.2)
  | none => A
def q_addc (A : as_T) (i : Nat) (a : av_T) (o : Int) : Option (Nat × Int) := if -2147483648 ≤ a.2.1 + o ∧ a.2.2.1 + o ≤ 2147483647 then some (q_lin A.1 i o) else none
/-- a sum or difference noted -/
def q_arl (c : Nat) (ok : Bool) (A : as_T) (i j : Nat) (B : as_T) : as_T := if ok && decide (A.1.length < 100000) then q_rel B c A.1.length i j else B
def q_iadd (A : as_T) : Option as_T := match A.2.2.1 with
  | j :: i :: s => match q_av A i 0, q_av A j 0 with
    | some a, some b => some (q_arl (bif decide (-2147483648 ≤ a.2.1 + b.2.1) && decide (a.2.2.1 + b.2.2.1 ≤ 2147483647) then 5 else 9000) true A i j (q_new (q_stk A s) (av_add a b) (if b.2.1 = b.2.2.1 then q_addc A i a b.2.1 else none)))
    | _, _ => none
  | _ => none
def q_isub (A : as_T) : Option as_T := match A.2.2.1 with
  | j :: i :: s => match q_av A i 0, q_av A j 0 with
    | some a, some b => some (q_arl (bif decide (-2147483648 ≤ a.2.1 - b.2.2.1) && decide (a.2.2.1 - b.2.1 ≤ 2147483647) then 6 else 9001) true A i j (q_new (q_stk A s) (av_sub a b) (if b.2.1 = b.2.2.1 then q_addc A i a (-b.2.1) else none)))
    | _, _ => none
  | _ => none
def q_imul (A : as_T) : Option as_T := match A.2.2.1 with
  | j :: i :: s => match q_av A i 0, q_av A j 0 with
    | some a, some b => some (q_arl 7 (decide (0 ≤ a.2.1) && decide (0 ≤ b.2.1) && decide (a.2.2.1 * b.2.2.1 ≤ 2147483647)) A i j (q_new (q_stk A s) (av_mul a b) none))
    | _, _ => none
  | _ => none
def q_iand (A : as_T) : Option as_T := match A.2.2.1 with
  | j :: i :: s => match q_av A i 0, q_av A j 0 with
    | some a, some b => some (if 0 ≤ b.2.1 then q_rel (q_new (q_stk A s) (av_and a b) none) 2 0 A.1.length j else q_new (q_stk A s) (av_and a b) none)
    | _, _ => none
  | _ => none
def q_l2 (A : as_T) : Option as_T := match A.2.2.1 with
  | j :: i :: s => match q_av A i 1, q_av A j 1 with
    | some _, some _ => some (q_new (q_stk A s) av_ltop none)
    | _, _ => none
  | _ => none
/-- a divisor that isn't 0 -/
def q_nz (A : as_T) (j : Nat) (b : av_T) : Bool := decide (0 < b.2.1) || decide (b.2.2.1 < 0) || A.2.2.2.2.1.contains (j, 0)
def q_idiv (f : av_T → av_T → av_T) (A : as_T) : Option as_T := match A.2.2.1 with
  | j :: i :: s => match q_av A i 0, q_av A j 0 with
    | some a, some b => if q_nz A j b then some (q_new (q_stk A s) (f a b) none) else none
    | _, _ => none
  | _ => none
def q_idv (A : as_T) : Option as_T := match A.2.2.1 with
  | j :: i :: s => match q_av A i 0, q_av A j 0 with
    | some a, some b => if q_nz A j b then some (q_arl 9 (decide (0 ≤ a.2.1) && decide (0 < b.2.1)) A i j (q_new (q_stk A s) (av_div a b) none)) else none
    | _, _ => none
  | _ => none
def q_irm (A : as_T) : Option as_T := match A.2.2.1 with
  | j :: i :: s => match q_av A i 0, q_av A j 0 with
    | some a, some b => if q_nz A j b then some (q_arl 9002 (decide (0 ≤ a.2.1) && decide (0 < b.2.1)) A i j (q_new (q_stk A s) (av_rem a b) none)) else none
    | _, _ => none
  | _ => none
def q_ldiv (A : as_T) : Option as_T := match A.2.2.1 with
  | j :: i :: s => match q_av A i 1, q_av A j 1 with
    | some _, some b => if q_nz A j b then some (q_new (q_stk A s) av_ltop none) else none
    | _, _ => none
  | _ => none
section SP
variable {p : Program} {l : Launch} {e0 : Env} {R : Room} {s0 : State} {m : MethodId} {args : Array Value} {below : List Frame} {meth : Method} {c0 : Code} {Q : State → Prop}
variable {D : va_G} {tc : Nat → ClassId} {ad : Nat → Nat} {kd : Nat → Nat × Nat} {N nL : Nat} {A0 : Nat → Prop} {own : String} {cc : ByteArray} {sm : Nat → Nat}
variable {fl : fl_T} {α0 : List av_X} {S0 : fw_S} {mod : List md_T} {α : List av_X} {A A' : as_T} {lv : List (Nat × Value)} {st : List Value} {S : fw_S} {pc n : Nat}
theorem q_av_some {i k : Nat} {a : av_T} (h : q_av A i k = some a) : ∃ d, A.1[i]? = some (a, d) ∧ a.1 = k := by
  unfold q_av at h
  split at h
  · rename_i q hq
    split at h
    · rename_i hk
      cases h
      exact ⟨q.2, hq, hk⟩
    · cases h
  · cases h
theorem as_q {s : List Nat} (H : as_in ad sm fl α0 S0 mod α A lv st S) (h : A.2.2.1 = s) : as_in ad sm fl α0 S0 mod α (A.1, A.2.1, s, A.2.2.2.1, A.2.2.2.2.1, A.2.2.2.2.2.1, A.2.2.2.2.2.2.1, A.2.2.2.2.2.2.2.1, A.2.2.2.2.2.2.2.2) lv st S := by
  subst h
  exact H
theorem q_rel_in {c n i j : Nat} (h1 : 1 ≤ c) (h2 : n < 100000) (H : as_in ad sm fl α0 S0 mod α A lv st S) (hr : rel_in fl S0 α c n i j) : as_in ad sm fl α0 S0 mod α (q_rel A c n i j) lv st S := by
  unfold q_rel
  split
  · obtain ⟨g1, g2, g3, g4, g5, g6, g7, g8⟩ := H
    refine ⟨g1, g2, g3, g4, g5, g6, fun q hq => ?_, g8⟩
    rcases List.mem_cons.mp hq with g | g
    · subst g
      unfold lc_in
      dsimp only
      rw [if_neg (by omega), show (100000 * c + n) / 100000 = c by omega, show (100000 * c + n) % 100000 = n by omega]
      exact hr
    · exact g7 q g
  · exact H
theorem q_arl_in {c i j : Nat} {ok : Bool} {A B : as_T} (h1 : 1 ≤ c) (H : as_in ad sm fl α0 S0 mod α B lv st S) (hr : ok = true → rel_in fl S0 α c A.1.length i j) : as_in ad sm fl α0 S0 mod α (q_arl c ok A i j B) lv st S := by
  unfold q_arl
  split
  · rename_i hc
    rw [Bool.and_eq_true, decide_eq_true_eq] at hc
    exact q_rel_in h1 hc.2 H (hr hc.1)
  · exact H
/-- two ints on the stack -/
theorem as_pop2 {i j : Nat} {s : List Nat} {a b : av_T} (H : as_in ad sm fl α0 S0 mod α A lv st S) (h : A.2.2.1 = j :: i :: s) (ha : q_av A i 0 = some a) (hb : q_av A j 0 = some b) :
    ∃ (x y : Int32) (st' : List Value), st = .int y :: .int x :: st' ∧ α[i]? = some (0, x.toInt) ∧ α[j]? = some (0, y.toInt) ∧ av_in a (0, x.toInt) ∧ av_in b (0, y.toInt) ∧ as_in ad sm fl α0 S0 mod α (q_stk A s) lv st' S := by
  obtain ⟨d, h1, h2⟩ := q_av_some ha
  obtain ⟨d', h3, h4⟩ := q_av_some hb
  obtain ⟨y, st1, g1, g2, g3, g4⟩ := as_popi (as_q H h) h3 h4
  obtain ⟨x, st2, k1, k2, k3, k4⟩ := as_popi g4 h1 h2
  exact ⟨x, y, st2, by rw [g1, k1], k2, g2, k3, g3, k4⟩
theorem as_pop2l {i j : Nat} {s : List Nat} {a b : av_T} (H : as_in ad sm fl α0 S0 mod α A lv st S) (h : A.2.2.1 = j :: i :: s) (ha : q_av A i 1 = some a) (hb : q_av A j 1 = some b) :
    ∃ (x y : Int64) (st' : List Value), st = .long y :: .long x :: st' ∧ α[i]? = some (1, x.toInt) ∧ α[j]? = some (1, y.toInt) ∧ av_in a (1, x.toInt) ∧ av_in b (1, y.toInt) ∧ as_in ad sm fl α0 S0 mod α (q_stk A s) lv st' S := by
  obtain ⟨d, h1, h2⟩ := q_av_some ha
  obtain ⟨d', h3, h4⟩ := q_av_some hb
  obtain ⟨y, st1, g1, g2, g3, g4⟩ := as_popl (as_q H h) h3 h4
  obtain ⟨x, st2, k1, k2, k3, k4⟩ := as_popl g4 h1 h2
  exact ⟨x, y, st2, by rw [g1, k1], k2, g2, k3, g3, k4⟩
theorem q_lin_in {i : Nat} {o x : Int} (he : en_in α A.1) (hx : α[i]? = some (0, x)) : ∃ y : Int, α[(q_lin A.1 i o).1]? = some (0, y) ∧ x + o = y + (q_lin A.1 i o).2 := by
  unfold q_lin
  split
  · rename_i a b o' hq
    obtain ⟨x', h1, -, h3⟩ := he.2 i _ hq
    cases h1.symm.trans hx
    obtain ⟨-, y, g1, g2, g3⟩ := h3 b o' rfl
    obtain ⟨ky, y⟩ := y
    dsimp only at g2 g3
    subst g2
    exact ⟨y, g1, by dsimp only; omega⟩
  · exact ⟨x, hx, rfl⟩
/-- what follows a step -/
def sp_K (p : Program) (l : Launch) (e0 : Env) (R : Room) (s0 : State) (m : MethodId) (args : Array Value) (below : List Frame) (meth : Method) (c0 : Code) (Q : State → Prop) (D : va_G) (tc : Nat → ClassId) (ad : Nat → Nat) (kd : Nat → Nat × Nat) (N nL : Nat) (A0 : Nat → Prop) (sm : Nat → Nat) (fl : fl_T) (α0 : List av_X) (S0 : fw_S) (mod : List md_T) (α : List av_X) (n pc : Nat) (A : as_T) : Prop :=
  ∀ (β : List av_X) (lv : List (Nat × Value)) (st : List Value) (S : fw_S), al_le α β → as_in ad sm fl α0 S0 mod β A lv st S → fw_W p l e0 R s0 m args below meth c0 Q D tc ad kd N nL A0 pc lv st S n

theorem bif_ge {b : Bool} {m n : Nat} (hm : 1 ≤ m) (hn : 1 ≤ n) : 1 ≤ (bif b then m else n) := by
  cases b
  · exact hn
  · exact hm
theorem sp_imul (C0 : fw_C p s0 m args meth c0 D tc A0 own cc nL)  (hdg : decode cc pc = .ok (.imul, 1)) (h : q_imul A = some A') (H : as_in ad sm fl α0 S0 mod α A lv st S) (k : sp_K p l e0 R s0 m args below meth c0 Q D tc ad kd N nL A0 sm fl α0 S0 mod α n (pc + 1) A') : fw_W p l e0 R s0 m args below meth c0 Q D tc ad kd N nL A0 pc lv st S n := by
  unfold q_imul at h
  split at h
  · rename_i j i s hs
    split at h
    · rename_i a b ha hb
      cases h
      obtain ⟨x, y, st', rfl, gx, gy, g1, g2, g3⟩ := as_pop2 H hs ha hb
      refine fw_imul C0 hdg (k _ _ _ _ al_le_app (q_arl_in (by decide) (as_pushi g3 (av_mul_in g1 g2) (fun _ _ q => by cases q)) (fun hk => ?_)))
      simp only [Bool.and_eq_true, decide_eq_true_eq] at hk
      obtain ⟨⟨k1, k2⟩, k3⟩ := hk
      have x1 := g1.2.2.1
      have x2 := g1.2.2.2.1
      have y1 := g2.2.2.1
      have y2 := g2.2.2.2.1
      dsimp only at x1 x2 y1 y2
      have p1 : 0 ≤ x.toInt := by omega
      have p2 : 0 ≤ y.toInt := by omega
      have m0 : 0 ≤ x.toInt * y.toInt := Int.mul_nonneg p1 p2
      have m1 : x.toInt * y.toInt ≤ a.2.2.1 * b.2.2.1 := Int.mul_le_mul x2 y2 p2 (Int.le_trans p1 x2)
      refine ⟨(0, x.toInt), (0, y.toInt), al_le_app _ _ gx, al_le_app _ _ gy, ?_⟩
      have e1 : (x * y).toInt = x.toInt * y.toInt := by rw [Int32.toInt_mul]; exact av_wrap (by omega) (by omega)
      show (α ++ [(0, (x * y).toInt)])[A.1.length]? = some (0, x.toInt * y.toInt)
      rw [← e1, ← H.2.1.1]
      exact al_last
    · cases h
  · cases h
theorem sp_iand (C0 : fw_C p s0 m args meth c0 D tc A0 own cc nL)  (hdg : decode cc pc = .ok (.iand, 1)) (h : q_iand A = some A') (H : as_in ad sm fl α0 S0 mod α A lv st S) (k : sp_K p l e0 R s0 m args below meth c0 Q D tc ad kd N nL A0 sm fl α0 S0 mod α n (pc + 1) A') : fw_W p l e0 R s0 m args below meth c0 Q D tc ad kd N nL A0 pc lv st S n := by
  unfold q_iand at h
  split at h
  · rename_i j i s hs
    split at h
    · rename_i a b ha hb
      cases h
      obtain ⟨x, y, st', rfl, gx, gy, g1, g2, g3⟩ := as_pop2 H hs ha hb
      have n1 := as_pushi (d := none) g3 (av_and_in g1 g2) (fun _ _ q => by cases q)
      refine fw_iand C0 hdg (k (α ++ [(0, (x &&& y).toInt)]) _ _ _ al_le_app ?_)
      split
      · rename_i h0
        have y1 := g2.2.2.1
        dsimp only at y1
        refine q_rel_in (by decide) (by decide) n1 ⟨(0, (x &&& y).toInt), (0, y.toInt), by rw [← H.2.1.1]; exact al_last, al_le_app _ _ gy, ?_⟩
        exact (av_and_le (x := x) (y := y) (by omega)).2
      · exact n1
    · cases h
  · cases h
theorem sp_ishl (C0 : fw_C p s0 m args meth c0 D tc A0 own cc nL)  (hdg : decode cc pc = .ok (.ishl, 1)) (h : q_i2 av_shl A = some A') (H : as_in ad sm fl α0 S0 mod α A lv st S) (k : sp_K p l e0 R s0 m args below meth c0 Q D tc ad kd N nL A0 sm fl α0 S0 mod α n (pc + 1) A') : fw_W p l e0 R s0 m args below meth c0 Q D tc ad kd N nL A0 pc lv st S n := by
  unfold q_i2 at h
  split at h
  · rename_i j i s hs
    split at h
    · rename_i a b ha hb
      cases h
      obtain ⟨x, y, st', rfl, -, -, g1, g2, g3⟩ := as_pop2 H hs ha hb
      exact fw_ishl C0 hdg (k _ _ _ _ al_le_app (as_pushi g3 (av_shl_in g1 g2) (fun _ _ q => by cases q)))
    · cases h
  · cases h
theorem sp_ior (C0 : fw_C p s0 m args meth c0 D tc A0 own cc nL)  (hdg : decode cc pc = .ok (.ior, 1)) (h : q_i2 (fun _ _ => av_top) A = some A') (H : as_in ad sm fl α0 S0 mod α A lv st S) (k : sp_K p l e0 R s0 m args below meth c0 Q D tc ad kd N nL A0 sm fl α0 S0 mod α n (pc + 1) A') : fw_W p l e0 R s0 m args below meth c0 Q D tc ad kd N nL A0 pc lv st S n := by
  unfold q_i2 at h
  split at h
  · rename_i j i s hs
    split at h
    · rename_i a b ha hb
      cases h
      obtain ⟨x, y, st', rfl, -, -, g1, g2, g3⟩ := as_pop2 H hs ha hb
      exact fw_ior C0 hdg (k _ _ _ _ al_le_app (as_pushi g3 (av_top_in _) (fun _ _ q => by cases q)))
    · cases h
  · cases h
theorem sp_ixor (C0 : fw_C p s0 m args meth c0 D tc A0 own cc nL)  (hdg : decode cc pc = .ok (.ixor, 1)) (h : q_i2 (fun _ _ => av_top) A = some A') (H : as_in ad sm fl α0 S0 mod α A lv st S) (k : sp_K p l e0 R s0 m args below meth c0 Q D tc ad kd N nL A0 sm fl α0 S0 mod α n (pc + 1) A') : fw_W p l e0 R s0 m args below meth c0 Q D tc ad kd N nL A0 pc lv st S n := by
  unfold q_i2 at h
  split at h
  · rename_i j i s hs
    split at h
    · rename_i a b ha hb
      cases h
      obtain ⟨x, y, st', rfl, -, -, g1, g2, g3⟩ := as_pop2 H hs ha hb
      exact fw_ixor C0 hdg (k _ _ _ _ al_le_app (as_pushi g3 (av_top_in _) (fun _ _ q => by cases q)))
    · cases h
  · cases h
theorem sp_ishr (C0 : fw_C p s0 m args meth c0 D tc A0 own cc nL)  (hdg : decode cc pc = .ok (.ishr, 1)) (h : q_i2 (fun _ _ => av_top) A = some A') (H : as_in ad sm fl α0 S0 mod α A lv st S) (k : sp_K p l e0 R s0 m args below meth c0 Q D tc ad kd N nL A0 sm fl α0 S0 mod α n (pc + 1) A') : fw_W p l e0 R s0 m args below meth c0 Q D tc ad kd N nL A0 pc lv st S n := by
  unfold q_i2 at h
  split at h
  · rename_i j i s hs
    split at h
    · rename_i a b ha hb
      cases h
      obtain ⟨x, y, st', rfl, -, -, g1, g2, g3⟩ := as_pop2 H hs ha hb
      exact fw_ishr C0 hdg (k _ _ _ _ al_le_app (as_pushi g3 (av_top_in _) (fun _ _ q => by cases q)))
    · cases h
  · cases h
theorem sp_iushr (C0 : fw_C p s0 m args meth c0 D tc A0 own cc nL)  (hdg : decode cc pc = .ok (.iushr, 1)) (h : q_i2 (fun _ _ => av_top) A = some A') (H : as_in ad sm fl α0 S0 mod α A lv st S) (k : sp_K p l e0 R s0 m args below meth c0 Q D tc ad kd N nL A0 sm fl α0 S0 mod α n (pc + 1) A') : fw_W p l e0 R s0 m args below meth c0 Q D tc ad kd N nL A0 pc lv st S n := by
  unfold q_i2 at h
  split at h
  · rename_i j i s hs
    split at h
    · rename_i a b ha hb
      cases h
      obtain ⟨x, y, st', rfl, -, -, g1, g2, g3⟩ := as_pop2 H hs ha hb
      exact fw_iushr C0 hdg (k _ _ _ _ al_le_app (as_pushi g3 (av_top_in _) (fun _ _ q => by cases q)))
    · cases h
  · cases h
theorem sp_iadd (C0 : fw_C p s0 m args meth c0 D tc A0 own cc nL)  (hdg : decode cc pc = .ok (.iadd, 1)) (h : q_iadd A = some A') (H : as_in ad sm fl α0 S0 mod α A lv st S) (k : sp_K p l e0 R s0 m args below meth c0 Q D tc ad kd N nL A0 sm fl α0 S0 mod α n (pc + 1) A') : fw_W p l e0 R s0 m args below meth c0 Q D tc ad kd N nL A0 pc lv st S n := by
  unfold q_iadd at h
  split at h
  · rename_i j i s hs
    split at h
    · rename_i a b ha hb
      cases h
      obtain ⟨x, y, st', rfl, gx, gy, g1, g2, g3⟩ := as_pop2 H hs ha hb
      refine fw_iadd C0 hdg (k _ _ _ _ al_le_app (q_arl_in (bif_ge (by decide) (by decide)) (as_pushi g3 (av_add_in g1 g2) (fun w o hw => ?_)) (fun hk => ?_)))
      split at hw
      · rename_i hc
        unfold q_addc at hw
        split at hw
        · rename_i hr
          have hy : y.toInt = b.2.1 := by have := g2.2.2.1; have := g2.2.2.2.1; dsimp only at *; omega
          have hx1 := g1.2.2.1
          have hx2 := g1.2.2.2.1
          dsimp only at hx1 hx2
          obtain ⟨z, z1, z2⟩ := q_lin_in (o := b.2.1) H.2.1 gx
          rw [Option.some.inj hw] at z1 z2
          refine ⟨z, z1, ?_⟩
          rw [← z2, Int32.toInt_add, hy]
          exact av_wrap (by omega) (by omega)
        · cases hw
      · cases hw
      · have e0 : (x + y).toInt = (x.toInt + y.toInt).bmod (2 ^ 32) := Int32.toInt_add _ _
        have eb : ((x + y).toInt - (x.toInt + y.toInt)) % 4294967296 = 0 := by
          rw [e0]
          have := Int.bmod_emod (x := x.toInt + y.toInt) (m := 2 ^ 32)
          omega
        have eα : (α ++ [(0, (x + y).toInt)])[A.1.length]? = some (0, (x + y).toInt) := by
          rw [← H.2.1.1]
          exact al_last
        cases hB : (decide (-2147483648 ≤ a.2.1 + b.2.1) && decide (a.2.2.1 + b.2.2.1 ≤ 2147483647)) with
        | false => exact ⟨(0, x.toInt), (0, y.toInt), al_le_app _ _ gx, al_le_app _ _ gy, _, eα, eb⟩
        | true =>
        rw [Bool.and_eq_true, decide_eq_true_eq, decide_eq_true_eq] at hB
        have x1 := g1.2.2.1
        have x2 := g1.2.2.2.1
        have y1 := g2.2.2.1
        have y2 := g2.2.2.2.1
        dsimp only at x1 x2 y1 y2
        refine ⟨(0, x.toInt), (0, y.toInt), al_le_app _ _ gx, al_le_app _ _ gy, ?_⟩
        have e1 : (x + y).toInt = x.toInt + y.toInt := by rw [Int32.toInt_add]; exact av_wrap (by omega) (by omega)
        show (α ++ [(0, (x + y).toInt)])[A.1.length]? = some (0, x.toInt + y.toInt)
        rw [← e1, ← H.2.1.1]
        exact al_last
    · cases h
  · cases h
theorem sp_isub (C0 : fw_C p s0 m args meth c0 D tc A0 own cc nL)  (hdg : decode cc pc = .ok (.isub, 1)) (h : q_isub A = some A') (H : as_in ad sm fl α0 S0 mod α A lv st S) (k : sp_K p l e0 R s0 m args below meth c0 Q D tc ad kd N nL A0 sm fl α0 S0 mod α n (pc + 1) A') : fw_W p l e0 R s0 m args below meth c0 Q D tc ad kd N nL A0 pc lv st S n := by
  unfold q_isub at h
  split at h
  · rename_i j i s hs
    split at h
    · rename_i a b ha hb
      cases h
      obtain ⟨x, y, st', rfl, gx, gy, g1, g2, g3⟩ := as_pop2 H hs ha hb
      refine fw_isub C0 hdg (k _ _ _ _ al_le_app (q_arl_in (bif_ge (by decide) (by decide)) (as_pushi g3 (av_sub_in g1 g2) (fun w o hw => ?_)) (fun hk => ?_)))
      split at hw
      · rename_i hc
        unfold q_addc at hw
        split at hw
        · rename_i hr
          have hy : y.toInt = b.2.1 := by have := g2.2.2.1; have := g2.2.2.2.1; dsimp only at *; omega
          have hx1 := g1.2.2.1
          have hx2 := g1.2.2.2.1
          dsimp only at hx1 hx2
          obtain ⟨z, z1, z2⟩ := q_lin_in (o := (-b.2.1)) H.2.1 gx
          rw [Option.some.inj hw] at z1 z2
          refine ⟨z, z1, ?_⟩
          rw [← z2, Int32.toInt_sub, hy]
          exact av_wrap (by omega) (by omega)
        · cases hw
      · cases hw
      · have e0 : (x - y).toInt = (x.toInt - y.toInt).bmod (2 ^ 32) := Int32.toInt_sub _ _
        have eb : ((x - y).toInt - (x.toInt - y.toInt)) % 4294967296 = 0 := by
          rw [e0]
          have := Int.bmod_emod (x := x.toInt - y.toInt) (m := 2 ^ 32)
          omega
        have eα : (α ++ [(0, (x - y).toInt)])[A.1.length]? = some (0, (x - y).toInt) := by
          rw [← H.2.1.1]
          exact al_last
        cases hB : (decide (-2147483648 ≤ a.2.1 - b.2.2.1) && decide (a.2.2.1 - b.2.1 ≤ 2147483647)) with
        | false => exact ⟨(0, x.toInt), (0, y.toInt), al_le_app _ _ gx, al_le_app _ _ gy, _, eα, eb⟩
        | true =>
        rw [Bool.and_eq_true, decide_eq_true_eq, decide_eq_true_eq] at hB
        have x1 := g1.2.2.1
        have x2 := g1.2.2.2.1
        have y1 := g2.2.2.1
        have y2 := g2.2.2.2.1
        dsimp only at x1 x2 y1 y2
        refine ⟨(0, x.toInt), (0, y.toInt), al_le_app _ _ gx, al_le_app _ _ gy, ?_⟩
        have e1 : (x - y).toInt = x.toInt - y.toInt := by rw [Int32.toInt_sub]; exact av_wrap (by omega) (by omega)
        show (α ++ [(0, (x - y).toInt)])[A.1.length]? = some (0, x.toInt - y.toInt)
        rw [← e1, ← H.2.1.1]
        exact al_last
    · cases h
  · cases h
theorem q_nz_in {j k : Nat} {b : av_T} {y : Int} (H : as_in ad sm fl α0 S0 mod α A lv st S) (hj : α[j]? = some (k, y)) (hb : av_in b (k, y)) (h : q_nz A j b = true) (h0 : y = 0) : False := by
  unfold q_nz at h
  have h1 := hb.2.2.1
  have h2 := hb.2.2.2.1
  dsimp only at h1 h2
  simp only [Bool.or_eq_true, decide_eq_true_eq] at h
  rcases h with (h | h) | h
  · omega
  · omega
  · have hm : (j, (0 : Int)) ∈ A.2.2.2.2.1 := by simpa using h
    obtain ⟨x, g1, g2⟩ := H.2.2.2.2.2.1 _ hm
    cases g1.symm.trans hj
    exact g2 h0
theorem sp_idiv (C0 : fw_C p s0 m args meth c0 D tc A0 own cc nL)  (hdg : decode cc pc = .ok (.idiv, 1)) (h : q_idv A = some A') (H : as_in ad sm fl α0 S0 mod α A lv st S) (k : sp_K p l e0 R s0 m args below meth c0 Q D tc ad kd N nL A0 sm fl α0 S0 mod α n (pc + 1) A') : fw_W p l e0 R s0 m args below meth c0 Q D tc ad kd N nL A0 pc lv st S n := by
  unfold q_idv at h
  split at h
  · rename_i j i s hs
    split at h
    · rename_i a b ha hb
      split at h
      · rename_i hz
        cases h
        obtain ⟨x, y, st', rfl, gx, gy, g1, g2, g3⟩ := as_pop2 H hs ha hb
        refine fw_idiv C0 (fun q => ?_) hdg (k _ _ _ _ al_le_app (q_arl_in (by decide) (as_pushi g3 (av_div_in g1 g2) (fun _ _ q => by cases q)) (fun hk => ?_)))
        · exact q_nz_in H gy g2 hz (by rw [q]; rfl)
        · simp only [Bool.and_eq_true, decide_eq_true_eq] at hk
          have x1 := g1.2.2.1
          have y1 := g2.2.2.1
          dsimp only at x1 y1
          refine ⟨(0, x.toInt), (0, y.toInt), al_le_app _ _ gx, al_le_app _ _ gy, ?_⟩
          have e1 : (x / y).toInt = x.toInt / y.toInt := by
            rw [Int32.toInt_div_of_ne_right x y (fun h => by
              rw [h] at y1
              have : (-1 : Int32).toInt = -1 := by decide
              omega)]
            exact Int.tdiv_eq_ediv_of_nonneg (by omega)
          show (α ++ [(0, (x / y).toInt)])[A.1.length]? = some (0, x.toInt / y.toInt)
          rw [← e1, ← H.2.1.1]
          exact al_last
      · cases h
    · cases h
  · cases h
theorem sp_irem (C0 : fw_C p s0 m args meth c0 D tc A0 own cc nL)  (hdg : decode cc pc = .ok (.irem, 1)) (h : q_irm A = some A') (H : as_in ad sm fl α0 S0 mod α A lv st S) (k : sp_K p l e0 R s0 m args below meth c0 Q D tc ad kd N nL A0 sm fl α0 S0 mod α n (pc + 1) A') : fw_W p l e0 R s0 m args below meth c0 Q D tc ad kd N nL A0 pc lv st S n := by
  unfold q_irm at h
  split at h
  · rename_i j i s hs
    split at h
    · rename_i a b ha hb
      split at h
      · rename_i hz
        cases h
        obtain ⟨x, y, st', rfl, gx, gy, g1, g2, g3⟩ := as_pop2 H hs ha hb
        refine fw_irem C0 (fun q => ?_) hdg (k _ _ _ _ al_le_app (q_arl_in (by decide) (as_pushi g3 (av_rem_in g1 g2) (fun _ _ q => by cases q)) (fun hk => ?_)))
        · exact q_nz_in H gy g2 hz (by rw [q]; rfl)
        · simp only [Bool.and_eq_true, decide_eq_true_eq] at hk
          have x1 := g1.2.2.1
          have y1 := g2.2.2.1
          dsimp only at x1 y1
          refine ⟨(0, x.toInt), (0, y.toInt), al_le_app _ _ gx, al_le_app _ _ gy, ?_⟩
          have hq : (x / y).toInt = x.toInt / y.toInt := by
            rw [Int32.toInt_div_of_ne_right x y (fun h => by
              rw [h] at y1
              have : (-1 : Int32).toInt = -1 := by decide
              omega)]
            exact Int.tdiv_eq_ediv_of_nonneg (by omega)
          have x2 := Int32.toInt_lt x
          have hm0 : 0 ≤ x.toInt % y.toInt := Int.emod_nonneg _ (by omega)
          have hde := Int.mul_ediv_add_emod x.toInt y.toInt
          have hq0 : 0 ≤ x.toInt / y.toInt := Int.ediv_nonneg (by omega) (by omega)
          have hp0 : 0 ≤ x.toInt / y.toInt * y.toInt := Int.mul_nonneg hq0 (by omega)
          rw [Int.mul_comm] at hde
          have hm : (x / y * y).toInt = x.toInt / y.toInt * y.toInt := by
            rw [Int32.toInt_mul, hq]
            exact av_wrap (by omega) (by omega)
          have e1 : (x - x / y * y).toInt = x.toInt % y.toInt := by
            rw [Int32.toInt_sub, hm]
            rw [av_wrap (by omega) (by omega)]
            omega
          show (α ++ [(0, (x - x / y * y).toInt)])[A.1.length]? = some (0, x.toInt % y.toInt)
          rw [← e1, ← H.2.1.1]
          exact al_last
      · cases h
    · cases h
  · cases h
theorem sp_ladd (C0 : fw_C p s0 m args meth c0 D tc A0 own cc nL)  (hdg : decode cc pc = .ok (.ladd, 1)) (h : q_l2 A = some A') (H : as_in ad sm fl α0 S0 mod α A lv st S) (k : sp_K p l e0 R s0 m args below meth c0 Q D tc ad kd N nL A0 sm fl α0 S0 mod α n (pc + 1) A') : fw_W p l e0 R s0 m args below meth c0 Q D tc ad kd N nL A0 pc lv st S n := by
  unfold q_l2 at h
  split at h
  · rename_i j i s hs
    split at h
    · rename_i a b ha hb
      cases h
      obtain ⟨x, y, st', rfl, -, -, g1, g2, g3⟩ := as_pop2l H hs ha hb
      exact fw_ladd C0 hdg (k _ _ _ _ al_le_app (as_pushl g3 (av_ltop_in _)))
    · cases h
  · cases h
theorem sp_lsub (C0 : fw_C p s0 m args meth c0 D tc A0 own cc nL)  (hdg : decode cc pc = .ok (.lsub, 1)) (h : q_l2 A = some A') (H : as_in ad sm fl α0 S0 mod α A lv st S) (k : sp_K p l e0 R s0 m args below meth c0 Q D tc ad kd N nL A0 sm fl α0 S0 mod α n (pc + 1) A') : fw_W p l e0 R s0 m args below meth c0 Q D tc ad kd N nL A0 pc lv st S n := by
  unfold q_l2 at h
  split at h
  · rename_i j i s hs
    split at h
    · rename_i a b ha hb
      cases h
      obtain ⟨x, y, st', rfl, -, -, g1, g2, g3⟩ := as_pop2l H hs ha hb
      exact fw_lsub C0 hdg (k _ _ _ _ al_le_app (as_pushl g3 (av_ltop_in _)))
    · cases h
  · cases h
theorem sp_lmul (C0 : fw_C p s0 m args meth c0 D tc A0 own cc nL)  (hdg : decode cc pc = .ok (.lmul, 1)) (h : q_l2 A = some A') (H : as_in ad sm fl α0 S0 mod α A lv st S) (k : sp_K p l e0 R s0 m args below meth c0 Q D tc ad kd N nL A0 sm fl α0 S0 mod α n (pc + 1) A') : fw_W p l e0 R s0 m args below meth c0 Q D tc ad kd N nL A0 pc lv st S n := by
  unfold q_l2 at h
  split at h
  · rename_i j i s hs
    split at h
    · rename_i a b ha hb
      cases h
      obtain ⟨x, y, st', rfl, -, -, g1, g2, g3⟩ := as_pop2l H hs ha hb
      exact fw_lmul C0 hdg (k _ _ _ _ al_le_app (as_pushl g3 (av_ltop_in _)))
    · cases h
  · cases h
theorem sp_ldiv (C0 : fw_C p s0 m args meth c0 D tc A0 own cc nL)  (hdg : decode cc pc = .ok (.ldiv, 1)) (h : q_ldiv A = some A') (H : as_in ad sm fl α0 S0 mod α A lv st S) (k : sp_K p l e0 R s0 m args below meth c0 Q D tc ad kd N nL A0 sm fl α0 S0 mod α n (pc + 1) A') : fw_W p l e0 R s0 m args below meth c0 Q D tc ad kd N nL A0 pc lv st S n := by
  unfold q_ldiv at h
  split at h
  · rename_i j i s hs
    split at h
    · rename_i a b ha hb
      split at h
      · rename_i hz
        cases h
        obtain ⟨x, y, st', rfl, gx, gy, g1, g2, g3⟩ := as_pop2l H hs ha hb
        refine fw_ldiv C0 (fun q => ?_) hdg (k _ _ _ _ al_le_app (as_pushl g3 (av_ltop_in _)))
        exact q_nz_in H gy g2 hz (by rw [q]; rfl)
      · cases h
    · cases h
  · cases h
theorem sp_lrem (C0 : fw_C p s0 m args meth c0 D tc A0 own cc nL)  (hdg : decode cc pc = .ok (.lrem, 1)) (h : q_ldiv A = some A') (H : as_in ad sm fl α0 S0 mod α A lv st S) (k : sp_K p l e0 R s0 m args below meth c0 Q D tc ad kd N nL A0 sm fl α0 S0 mod α n (pc + 1) A') : fw_W p l e0 R s0 m args below meth c0 Q D tc ad kd N nL A0 pc lv st S n := by
  unfold q_ldiv at h
  split at h
  · rename_i j i s hs
    split at h
    · rename_i a b ha hb
      split at h
      · rename_i hz
        cases h
        obtain ⟨x, y, st', rfl, gx, gy, g1, g2, g3⟩ := as_pop2l H hs ha hb
        refine fw_lrem C0 (fun q => ?_) hdg (k _ _ _ _ al_le_app (as_pushl g3 (av_ltop_in _)))
        exact q_nz_in H gy g2 hz (by rw [q]; rfl)
      · cases h
    · cases h
  · cases h
def q_ineg (A : as_T) : Option as_T := match A.2.2.1 with
  | i :: s => match q_av A i 0 with
    | some a => some (q_new (q_stk A s) (av_sub (0, 0, 0, 0) a) none)
    | none => none
  | _ => none
def q_lneg (A : as_T) : Option as_T := match A.2.2.1 with
  | i :: s => match q_av A i 1 with
    | some _ => some (q_new (q_stk A s) av_ltop none)
    | none => none
  | _ => none
def q_i2l (A : as_T) : Option as_T := match A.2.2.1 with
  | i :: s => match q_av A i 0 with
    | some a => some (q_new (q_stk A s) (1, a.2) none)
    | none => none
  | _ => none
def q_l2i (A : as_T) : Option as_T := match A.2.2.1 with
  | i :: s => match q_av A i 1 with
    | some _ => some (q_new (q_stk A s) av_top none)
    | none => none
  | _ => none
theorem as_pop1 {i : Nat} {s : List Nat} {a : av_T} (H : as_in ad sm fl α0 S0 mod α A lv st S) (h : A.2.2.1 = i :: s) (ha : q_av A i 0 = some a) :
    ∃ (x : Int32) (st' : List Value), st = .int x :: st' ∧ α[i]? = some (0, x.toInt) ∧ av_in a (0, x.toInt) ∧ as_in ad sm fl α0 S0 mod α (q_stk A s) lv st' S := by
  obtain ⟨d, h1, h2⟩ := q_av_some ha
  exact as_popi (as_q H h) h1 h2
theorem as_pop1l {i : Nat} {s : List Nat} {a : av_T} (H : as_in ad sm fl α0 S0 mod α A lv st S) (h : A.2.2.1 = i :: s) (ha : q_av A i 1 = some a) :
    ∃ (x : Int64) (st' : List Value), st = .long x :: st' ∧ α[i]? = some (1, x.toInt) ∧ av_in a (1, x.toInt) ∧ as_in ad sm fl α0 S0 mod α (q_stk A s) lv st' S := by
  obtain ⟨d, h1, h2⟩ := q_av_some ha
  exact as_popl (as_q H h) h1 h2
theorem sp_ineg (C0 : fw_C p s0 m args meth c0 D tc A0 own cc nL)  (hdg : decode cc pc = .ok (.ineg, 1)) (h : q_ineg A = some A') (H : as_in ad sm fl α0 S0 mod α A lv st S) (k : sp_K p l e0 R s0 m args below meth c0 Q D tc ad kd N nL A0 sm fl α0 S0 mod α n (pc + 1) A') : fw_W p l e0 R s0 m args below meth c0 Q D tc ad kd N nL A0 pc lv st S n := by
  unfold q_ineg at h
  split at h
  · rename_i i s hs
    split at h
    · rename_i a ha
      cases h
      obtain ⟨x, st', rfl, gx, g1, g3⟩ := as_pop1 H hs ha
      exact fw_ineg C0 hdg (k _ _ _ _ al_le_app (as_pushi g3 (av_sub_in (x := 0) ⟨rfl, (av_top_in 0).2.1, by decide, by decide, Int.dvd_refl _⟩ g1) (fun _ _ q => by cases q)))
    · cases h
  · cases h
theorem sp_lneg (C0 : fw_C p s0 m args meth c0 D tc A0 own cc nL)  (hdg : decode cc pc = .ok (.lneg, 1)) (h : q_lneg A = some A') (H : as_in ad sm fl α0 S0 mod α A lv st S) (k : sp_K p l e0 R s0 m args below meth c0 Q D tc ad kd N nL A0 sm fl α0 S0 mod α n (pc + 1) A') : fw_W p l e0 R s0 m args below meth c0 Q D tc ad kd N nL A0 pc lv st S n := by
  unfold q_lneg at h
  split at h
  · rename_i i s hs
    split at h
    · rename_i a ha
      cases h
      obtain ⟨x, st', rfl, gx, g1, g3⟩ := as_pop1l H hs ha
      exact fw_lneg C0 hdg (k _ _ _ _ al_le_app (as_pushl g3 (av_ltop_in _)))
    · cases h
  · cases h
theorem sp_i2l (C0 : fw_C p s0 m args meth c0 D tc A0 own cc nL)  (hdg : decode cc pc = .ok (.i2l, 1)) (h : q_i2l A = some A') (H : as_in ad sm fl α0 S0 mod α A lv st S) (k : sp_K p l e0 R s0 m args below meth c0 Q D tc ad kd N nL A0 sm fl α0 S0 mod α n (pc + 1) A') : fw_W p l e0 R s0 m args below meth c0 Q D tc ad kd N nL A0 pc lv st S n := by
  unfold q_i2l at h
  split at h
  · rename_i i s hs
    split at h
    · rename_i a ha
      cases h
      obtain ⟨x, st', rfl, gx, g1, g3⟩ := as_pop1 H hs ha
      exact fw_i2l C0 hdg (k _ _ _ _ al_le_app (as_pushl g3 (x := x.toInt64) ⟨rfl, (av_ltop_in _).2.1, by rw [Int32.toInt_toInt64]; exact g1.2.2.1, by rw [Int32.toInt_toInt64]; exact g1.2.2.2.1, by rw [Int32.toInt_toInt64]; exact g1.2.2.2.2⟩))
    · cases h
  · cases h
theorem sp_l2i (C0 : fw_C p s0 m args meth c0 D tc A0 own cc nL)  (hdg : decode cc pc = .ok (.l2i, 1)) (h : q_l2i A = some A') (H : as_in ad sm fl α0 S0 mod α A lv st S) (k : sp_K p l e0 R s0 m args below meth c0 Q D tc ad kd N nL A0 sm fl α0 S0 mod α n (pc + 1) A') : fw_W p l e0 R s0 m args below meth c0 Q D tc ad kd N nL A0 pc lv st S n := by
  unfold q_l2i at h
  split at h
  · rename_i i s hs
    split at h
    · rename_i a ha
      cases h
      obtain ⟨x, st', rfl, gx, g1, g3⟩ := as_pop1l H hs ha
      exact fw_l2i C0 hdg (k _ _ _ _ al_le_app (as_pushi g3 (av_top_in _) (fun _ _ q => by cases q)))
    · cases h
  · cases h
def q_cst (A : as_T) (v : Int) : as_T := q_new A (0, v, v, 0) none
theorem q_cst_in {x : Int32} {v : Int} (h : x.toInt = v) (H : as_in ad sm fl α0 S0 mod α A lv st S) : as_in ad sm fl α0 S0 mod (α ++ [(0, x.toInt)]) (q_cst A v) lv (.int x :: st) S :=
  as_pushi (as_q H rfl) ⟨rfl, (av_top_in x).2.1, by dsimp only; omega, by dsimp only; omega, by dsimp only; rw [h, Int.sub_self]; exact Int.dvd_zero _⟩ (fun _ _ q => by cases q)
theorem sp_iconst (C0 : fw_C p s0 m args meth c0 D tc A0 own cc nL) {v : Int} (hdg : decode cc pc = .ok (.iconst v, 1)) (hv : (Int32.ofInt v).toInt = v) (H : as_in ad sm fl α0 S0 mod α A lv st S) (k : sp_K p l e0 R s0 m args below meth c0 Q D tc ad kd N nL A0 sm fl α0 S0 mod α n (pc + 1) (q_cst A v)) : fw_W p l e0 R s0 m args below meth c0 Q D tc ad kd N nL A0 pc lv st S n :=
  fw_iconst C0 hdg (k _ _ _ _ al_le_app (q_cst_in hv H))
theorem sp_bipush (C0 : fw_C p s0 m args meth c0 D tc A0 own cc nL) {v : Int} (hdg : decode cc pc = .ok (.bipush v, 2)) (hv : (Int8.ofInt v).toInt32.toInt = v) (H : as_in ad sm fl α0 S0 mod α A lv st S) (k : sp_K p l e0 R s0 m args below meth c0 Q D tc ad kd N nL A0 sm fl α0 S0 mod α n (pc + 2) (q_cst A v)) : fw_W p l e0 R s0 m args below meth c0 Q D tc ad kd N nL A0 pc lv st S n :=
  fw_bipush C0 hdg (k _ _ _ _ al_le_app (q_cst_in hv H))
theorem sp_sipush (C0 : fw_C p s0 m args meth c0 D tc A0 own cc nL) {v : Int} (hdg : decode cc pc = .ok (.sipush v, 3)) (hv : (Int16.ofInt v).toInt32.toInt = v) (H : as_in ad sm fl α0 S0 mod α A lv st S) (k : sp_K p l e0 R s0 m args below meth c0 Q D tc ad kd N nL A0 sm fl α0 S0 mod α n (pc + 3) (q_cst A v)) : fw_W p l e0 R s0 m args below meth c0 Q D tc ad kd N nL A0 pc lv st S n :=
  fw_sipush C0 hdg (k _ _ _ _ al_le_app (q_cst_in hv H))
theorem q_lcst_in {x : Int64} {v : Int} (h : x.toInt = v) (H : as_in ad sm fl α0 S0 mod α A lv st S) : as_in ad sm fl α0 S0 mod (α ++ [(1, x.toInt)]) (q_new A (1, v, v, 0) none) lv (.long x :: st) S :=
  as_pushl (as_q H rfl) ⟨rfl, (av_ltop_in x).2.1, by dsimp only; omega, by dsimp only; omega, by dsimp only; rw [h, Int.sub_self]; exact Int.dvd_zero _⟩
theorem sp_lconst (C0 : fw_C p s0 m args meth c0 D tc A0 own cc nL) {v : Fin 2} (hdg : decode cc pc = .ok (.lconst v, 1)) (H : as_in ad sm fl α0 S0 mod α A lv st S) (k : sp_K p l e0 R s0 m args below meth c0 Q D tc ad kd N nL A0 sm fl α0 S0 mod α n (pc + 1) (q_new A (1, (v : Nat), (v : Nat), 0) none)) : fw_W p l e0 R s0 m args below meth c0 Q D tc ad kd N nL A0 pc lv st S n := by
  refine fw_lconst C0 hdg (k _ _ _ _ al_le_app (q_lcst_in ?_ H))
  match v with
  | 0 => rfl
  | 1 => rfl
/-- stack -/
def q_dup (A : as_T) : Option as_T := match A.2.2.1 with
  | i :: s => if en_kind A.1 i = 1 then none else some (q_stk A (i :: i :: s))
  | _ => none
def q_dup_x1 (A : as_T) : Option as_T := match A.2.2.1 with
  | i :: j :: s => if en_kind A.1 i = 1 ∨ en_kind A.1 j = 1 then none else some (q_stk A (i :: j :: i :: s))
  | _ => none
def q_dup2 (A : as_T) : Option as_T := match A.2.2.1 with
  | i :: s => if en_kind A.1 i = 1 then some (q_stk A (i :: i :: s)) else match s with
    | j :: s => if en_kind A.1 j = 1 then none else some (q_stk A (i :: j :: i :: j :: s))
    | _ => none
  | _ => none
def q_pop (A : as_T) : Option as_T := match A.2.2.1 with
  | i :: s => if en_kind A.1 i = 1 then none else some (q_stk A s)
  | _ => none
theorem en_cat1 {i : Nat} {x : av_X} (H : as_in ad sm fl α0 S0 mod α A lv st S) (hx : α[i]? = some x) (h : ¬ en_kind A.1 i = 1) : (av_V ad sm x).category = 1 := by
  rw [en_kind_eq H.2.1 hx] at h
  rcases av_cat (ad := ad) (sm := sm) x with ⟨q, -⟩ | ⟨-, q⟩
  · exact absurd q h
  · exact q
theorem en_cat2 {i : Nat} {x : av_X} (H : as_in ad sm fl α0 S0 mod α A lv st S) (hx : α[i]? = some x) (h : en_kind A.1 i = 1) : (av_V ad sm x).category = 2 := by
  rw [en_kind_eq H.2.1 hx] at h
  rcases av_cat (ad := ad) (sm := sm) x with ⟨-, q⟩ | ⟨q, -⟩
  · exact q
  · exact absurd h q
theorem sp_dup (C0 : fw_C p s0 m args meth c0 D tc A0 own cc nL)  (hdg : decode cc pc = .ok (.dup, 1)) (h : q_dup A = some A') (H : as_in ad sm fl α0 S0 mod α A lv st S) (k : sp_K p l e0 R s0 m args below meth c0 Q D tc ad kd N nL A0 sm fl α0 S0 mod α n (pc + 1) A') : fw_W p l e0 R s0 m args below meth c0 Q D tc ad kd N nL A0 pc lv st S n := by
  unfold q_dup at h
  split at h
  · rename_i i s hs
    split at h
    · cases h
    · rename_i hk
      cases h
      obtain ⟨x, st', rfl, g1, g2⟩ := as_pop (as_q H hs)
      exact fw_dup C0 (en_cat1 H g1 hk) hdg (k _ _ _ _ al_le.refl (as_pushv (as_pushv g2 g1) g1))
  · cases h
theorem sp_dup_x1 (C0 : fw_C p s0 m args meth c0 D tc A0 own cc nL)  (hdg : decode cc pc = .ok (.dup_x1, 1)) (h : q_dup_x1 A = some A') (H : as_in ad sm fl α0 S0 mod α A lv st S) (k : sp_K p l e0 R s0 m args below meth c0 Q D tc ad kd N nL A0 sm fl α0 S0 mod α n (pc + 1) A') : fw_W p l e0 R s0 m args below meth c0 Q D tc ad kd N nL A0 pc lv st S n := by
  unfold q_dup_x1 at h
  split at h
  · rename_i i j s hs
    split at h
    · cases h
    · rename_i hk
      cases h
      obtain ⟨x, st', rfl, g1, g2⟩ := as_pop (as_q H hs)
      obtain ⟨y, st'', rfl, g3, g4⟩ := as_pop g2
      exact fw_dup_x1 C0 (en_cat1 H g1 (fun q => hk (Or.inl q))) (en_cat1 H g3 (fun q => hk (Or.inr q))) hdg (k _ _ _ _ al_le.refl (as_pushv (as_pushv (as_pushv g4 g1) g3) g1))
  · cases h
theorem sp_dup2 (C0 : fw_C p s0 m args meth c0 D tc A0 own cc nL)  (hdg : decode cc pc = .ok (.dup2, 1)) (h : q_dup2 A = some A') (H : as_in ad sm fl α0 S0 mod α A lv st S) (k : sp_K p l e0 R s0 m args below meth c0 Q D tc ad kd N nL A0 sm fl α0 S0 mod α n (pc + 1) A') : fw_W p l e0 R s0 m args below meth c0 Q D tc ad kd N nL A0 pc lv st S n := by
  unfold q_dup2 at h
  split at h
  · rename_i i s hs
    split at h
    · rename_i hk
      cases h
      obtain ⟨x, st', rfl, g1, g2⟩ := as_pop (as_q H hs)
      exact fw_dup2l C0 (en_cat2 H g1 hk) hdg (k _ _ _ _ al_le.refl (as_pushv (as_pushv g2 g1) g1))
    · rename_i hk
      split at h
      · rename_i j s2
        split at h
        · cases h
        · rename_i hk2
          cases h
          obtain ⟨x, st', rfl, g1, g2⟩ := as_pop (as_q H hs)
          obtain ⟨y, st'', rfl, g3, g4⟩ := as_pop g2
          exact fw_dup2 C0 (en_cat1 H g1 hk) (en_cat1 H g3 hk2) hdg (k _ _ _ _ al_le.refl (as_pushv (as_pushv (as_pushv (as_pushv g4 g3) g1) g3) g1))
      · cases h
  · cases h
theorem sp_pop (C0 : fw_C p s0 m args meth c0 D tc A0 own cc nL)  (hdg : decode cc pc = .ok (.pop, 1)) (h : q_pop A = some A') (H : as_in ad sm fl α0 S0 mod α A lv st S) (k : sp_K p l e0 R s0 m args below meth c0 Q D tc ad kd N nL A0 sm fl α0 S0 mod α n (pc + 1) A') : fw_W p l e0 R s0 m args below meth c0 Q D tc ad kd N nL A0 pc lv st S n := by
  unfold q_pop at h
  split at h
  · rename_i i s hs
    split at h
    · cases h
    · rename_i hk
      cases h
      obtain ⟨x, st', rfl, g1, g2⟩ := as_pop (as_q H hs)
      exact fw_pop C0 (en_cat1 H g1 hk) hdg (k _ _ _ _ al_le.refl g2)
  · cases h
/-- a local on the stack; kind: 0 int, 1 long, 2 a reference -/
def q_load (A : as_T) (i k : Nat) : Option as_T := match as_loc A.2.1 i with
  | some v => if (en_kind A.1 v = k ∨ k = 2 ∧ 2 ≤ en_kind A.1 v ∧ en_kind A.1 v < 99) then some (q_stk A (v :: A.2.2.1)) else none
  | none => none
theorem q_load_in {i k : Nat} (h : q_load A i k = some A') (H : as_in ad sm fl α0 S0 mod α A lv st S) : ∃ x : av_X, (i, av_V ad sm x) ∈ lv ∧ as_in ad sm fl α0 S0 mod α A' lv (av_V ad sm x :: st) S ∧ (x.1 = k ∨ k = 2 ∧ 2 ≤ x.1) ∧ av_ok x := by
  unfold q_load at h
  split at h
  · rename_i v hv
    split at h
    · rename_i hk
      cases h
      obtain ⟨x, g1, g2⟩ := as_local (as_q H rfl) hv
      obtain ⟨q, q1, q2, -⟩ := en_some H.2.1 g1
      refine ⟨x, g2, as_pushv (as_q H rfl) g1, ?_, q2.2.1⟩
      rw [en_kind_eq H.2.1 g1] at hk
      rcases hk with hk | hk
      · exact Or.inl hk
      · exact Or.inr ⟨hk.1, hk.2.1⟩
    · cases h
  · cases h
theorem av_V_i {x : av_X} (h : x.1 = 0) : av_V ad sm x = .int (Int32.ofInt x.2) := by
  obtain ⟨k, y⟩ := x
  dsimp only at h
  subst h
  rfl
theorem av_V_l {x : av_X} (h : x.1 = 1) : av_V ad sm x = .long (Int64.ofInt x.2) := by
  obtain ⟨k, y⟩ := x
  dsimp only at h
  subst h
  rfl
theorem av_V_a {x : av_X} (h : 2 ≤ x.1) : ∃ a : Nat, av_V ad sm x = .ref a := by
  obtain ⟨k, y⟩ := x
  match k, h with
  | 2, _ => exact ⟨_, rfl⟩
  | 3, _ => exact ⟨_, rfl⟩
  | n + 4, _ => exact ⟨_, rfl⟩
theorem sp_iload_n (C0 : fw_C p s0 m args meth c0 D tc A0 own cc nL) {i : Fin 4} (hdg : decode cc pc = .ok (.iload_n i, 1)) (h : q_load A i 0 = some A') (H : as_in ad sm fl α0 S0 mod α A lv st S) (k : sp_K p l e0 R s0 m args below meth c0 Q D tc ad kd N nL A0 sm fl α0 S0 mod α n (pc + 1) A') : fw_W p l e0 R s0 m args below meth c0 Q D tc ad kd N nL A0 pc lv st S n := by
  obtain ⟨x, h1, h2, h3, -⟩ := q_load_in h H
  have e : x.1 = 0 := by rcases h3 with h3 | h3; exact h3; omega
  rw [av_V_i e] at h1 h2
  exact fw_iload_n C0 h1 hdg (k _ _ _ _ al_le.refl h2)
theorem sp_iload (C0 : fw_C p s0 m args meth c0 D tc A0 own cc nL) {i : Nat} (hdg : decode cc pc = .ok (.iload i, 2)) (h : q_load A i 0 = some A') (H : as_in ad sm fl α0 S0 mod α A lv st S) (k : sp_K p l e0 R s0 m args below meth c0 Q D tc ad kd N nL A0 sm fl α0 S0 mod α n (pc + 2) A') : fw_W p l e0 R s0 m args below meth c0 Q D tc ad kd N nL A0 pc lv st S n := by
  obtain ⟨x, h1, h2, h3, -⟩ := q_load_in h H
  have e : x.1 = 0 := by rcases h3 with h3 | h3; exact h3; omega
  rw [av_V_i e] at h1 h2
  exact fw_iload C0 h1 hdg (k _ _ _ _ al_le.refl h2)
theorem sp_lload_n (C0 : fw_C p s0 m args meth c0 D tc A0 own cc nL) {i : Fin 4} (hdg : decode cc pc = .ok (.lload_n i, 1)) (h : q_load A i 1 = some A') (H : as_in ad sm fl α0 S0 mod α A lv st S) (k : sp_K p l e0 R s0 m args below meth c0 Q D tc ad kd N nL A0 sm fl α0 S0 mod α n (pc + 1) A') : fw_W p l e0 R s0 m args below meth c0 Q D tc ad kd N nL A0 pc lv st S n := by
  obtain ⟨x, h1, h2, h3, -⟩ := q_load_in h H
  have e : x.1 = 1 := by rcases h3 with h3 | h3; exact h3; omega
  rw [av_V_l e] at h1 h2
  exact fw_lload_n C0 h1 hdg (k _ _ _ _ al_le.refl h2)
theorem sp_lload (C0 : fw_C p s0 m args meth c0 D tc A0 own cc nL) {i : Nat} (hdg : decode cc pc = .ok (.lload i, 2)) (h : q_load A i 1 = some A') (H : as_in ad sm fl α0 S0 mod α A lv st S) (k : sp_K p l e0 R s0 m args below meth c0 Q D tc ad kd N nL A0 sm fl α0 S0 mod α n (pc + 2) A') : fw_W p l e0 R s0 m args below meth c0 Q D tc ad kd N nL A0 pc lv st S n := by
  obtain ⟨x, h1, h2, h3, -⟩ := q_load_in h H
  have e : x.1 = 1 := by rcases h3 with h3 | h3; exact h3; omega
  rw [av_V_l e] at h1 h2
  exact fw_lload C0 h1 hdg (k _ _ _ _ al_le.refl h2)
theorem sp_aload_n (C0 : fw_C p s0 m args meth c0 D tc A0 own cc nL) {i : Fin 4} (hdg : decode cc pc = .ok (.aload_n i, 1)) (h : q_load A i 2 = some A') (H : as_in ad sm fl α0 S0 mod α A lv st S) (k : sp_K p l e0 R s0 m args below meth c0 Q D tc ad kd N nL A0 sm fl α0 S0 mod α n (pc + 1) A') : fw_W p l e0 R s0 m args below meth c0 Q D tc ad kd N nL A0 pc lv st S n := by
  obtain ⟨x, h1, h2, h3, -⟩ := q_load_in h H
  obtain ⟨y, e⟩ := av_V_a (ad := ad) (sm := sm) (x := x) (by omega)
  rw [e] at h1 h2
  exact fw_aload_n C0 h1 hdg (k _ _ _ _ al_le.refl h2)
theorem sp_aload (C0 : fw_C p s0 m args meth c0 D tc A0 own cc nL) {i : Nat} (hdg : decode cc pc = .ok (.aload i, 2)) (h : q_load A i 2 = some A') (H : as_in ad sm fl α0 S0 mod α A lv st S) (k : sp_K p l e0 R s0 m args below meth c0 Q D tc ad kd N nL A0 sm fl α0 S0 mod α n (pc + 2) A') : fw_W p l e0 R s0 m args below meth c0 Q D tc ad kd N nL A0 pc lv st S n := by
  obtain ⟨x, h1, h2, h3, -⟩ := q_load_in h H
  obtain ⟨y, e⟩ := av_V_a (ad := ad) (sm := sm) (x := x) (by omega)
  rw [e] at h1 h2
  exact fw_aload C0 h1 hdg (k _ _ _ _ al_le.refl h2)
def q_store (A : as_T) (i k : Nat) : Option as_T := match A.2.2.1 with
  | v :: s => if en_kind A.1 v = k ∨ k = 2 ∧ 2 ≤ en_kind A.1 v ∧ en_kind A.1 v < 99 then some (A.1, if k = 1 then as_st2 A.1 A.2.1 i v else as_st1 A.1 A.2.1 i v, s, A.2.2.2) else none
  | _ => none
theorem q_store_in {i k : Nat} (h : q_store A i k = some A') (H : as_in ad sm fl α0 S0 mod α A lv st S) : ∃ (x : av_X) (st' : List Value), st = av_V ad sm x :: st' ∧ (x.1 = k ∨ k = 2 ∧ 2 ≤ x.1) ∧ as_in ad sm fl α0 S0 mod α A' (if k = 1 then fw_st2 lv i (av_V ad sm x) else fw_st1 lv i (av_V ad sm x)) st' S := by
  unfold q_store at h
  split at h
  · rename_i v s hs
    split at h
    · rename_i hk
      cases h
      obtain ⟨x, st', rfl, g1, g2⟩ := as_pop (as_q H hs)
      refine ⟨x, st', rfl, ?_, ?_⟩
      · rw [en_kind_eq H.2.1 g1] at hk
        rcases hk with hk | hk
        · exact Or.inl hk
        · exact Or.inr ⟨hk.1, hk.2.1⟩
      · split
        · exact as_store2 g2 g1
        · exact as_store1 g2 g1
    · cases h
  · cases h
theorem sp_istore_n (C0 : fw_C p s0 m args meth c0 D tc A0 own cc nL) {k0 : Fin 4} {i : Nat} (hi : (k0 : Nat) = i) (hn : i < nL) (hdg : decode cc pc = .ok (.istore_n k0, 1)) (h : q_store A i 0 = some A') (H : as_in ad sm fl α0 S0 mod α A lv st S) (k : sp_K p l e0 R s0 m args below meth c0 Q D tc ad kd N nL A0 sm fl α0 S0 mod α n (pc + 1) A') : fw_W p l e0 R s0 m args below meth c0 Q D tc ad kd N nL A0 pc lv st S n := by
  obtain ⟨x, st', rfl, h3, h2⟩ := q_store_in h H
  have e : x.1 = 0 := by rcases h3 with h3 | h3; exact h3; omega
  rw [av_V_i e] at h2 ⊢
  exact fw_istore_n C0 hi hn hdg (k _ _ _ _ al_le.refl h2)
theorem sp_istore (C0 : fw_C p s0 m args meth c0 D tc A0 own cc nL) {i : Nat} (hn : i < nL) (hdg : decode cc pc = .ok (.istore i, 2)) (h : q_store A i 0 = some A') (H : as_in ad sm fl α0 S0 mod α A lv st S) (k : sp_K p l e0 R s0 m args below meth c0 Q D tc ad kd N nL A0 sm fl α0 S0 mod α n (pc + 2) A') : fw_W p l e0 R s0 m args below meth c0 Q D tc ad kd N nL A0 pc lv st S n := by
  obtain ⟨x, st', rfl, h3, h2⟩ := q_store_in h H
  have e : x.1 = 0 := by rcases h3 with h3 | h3; exact h3; omega
  rw [av_V_i e] at h2 ⊢
  exact fw_istore C0 hn hdg (k _ _ _ _ al_le.refl h2)
theorem sp_lstore_n (C0 : fw_C p s0 m args meth c0 D tc A0 own cc nL) {k0 : Fin 4} {i : Nat} (hi : (k0 : Nat) = i) (hn : i + 1 < nL) (hdg : decode cc pc = .ok (.lstore_n k0, 1)) (h : q_store A i 1 = some A') (H : as_in ad sm fl α0 S0 mod α A lv st S) (k : sp_K p l e0 R s0 m args below meth c0 Q D tc ad kd N nL A0 sm fl α0 S0 mod α n (pc + 1) A') : fw_W p l e0 R s0 m args below meth c0 Q D tc ad kd N nL A0 pc lv st S n := by
  obtain ⟨x, st', rfl, h3, h2⟩ := q_store_in h H
  have e : x.1 = 1 := by rcases h3 with h3 | h3; exact h3; omega
  rw [av_V_l e] at h2 ⊢
  exact fw_lstore_n C0 hi hn hdg (k _ _ _ _ al_le.refl h2)
theorem sp_lstore (C0 : fw_C p s0 m args meth c0 D tc A0 own cc nL) {i : Nat} (hn : i + 1 < nL) (hdg : decode cc pc = .ok (.lstore i, 2)) (h : q_store A i 1 = some A') (H : as_in ad sm fl α0 S0 mod α A lv st S) (k : sp_K p l e0 R s0 m args below meth c0 Q D tc ad kd N nL A0 sm fl α0 S0 mod α n (pc + 2) A') : fw_W p l e0 R s0 m args below meth c0 Q D tc ad kd N nL A0 pc lv st S n := by
  obtain ⟨x, st', rfl, h3, h2⟩ := q_store_in h H
  have e : x.1 = 1 := by rcases h3 with h3 | h3; exact h3; omega
  rw [av_V_l e] at h2 ⊢
  exact fw_lstore C0 hn hdg (k _ _ _ _ al_le.refl h2)
theorem sp_astore_n (C0 : fw_C p s0 m args meth c0 D tc A0 own cc nL) {k0 : Fin 4} {i : Nat} (hi : (k0 : Nat) = i) (hn : i < nL) (hdg : decode cc pc = .ok (.astore_n k0, 1)) (h : q_store A i 2 = some A') (H : as_in ad sm fl α0 S0 mod α A lv st S) (k : sp_K p l e0 R s0 m args below meth c0 Q D tc ad kd N nL A0 sm fl α0 S0 mod α n (pc + 1) A') : fw_W p l e0 R s0 m args below meth c0 Q D tc ad kd N nL A0 pc lv st S n := by
  obtain ⟨x, st', rfl, h3, h2⟩ := q_store_in h H
  obtain ⟨y, e⟩ := av_V_a (ad := ad) (sm := sm) (x := x) (by omega)
  rw [e] at h2 ⊢
  exact fw_astore_n C0 hi hn hdg (k _ _ _ _ al_le.refl h2)
theorem sp_astore (C0 : fw_C p s0 m args meth c0 D tc A0 own cc nL) {i : Nat} (hn : i < nL) (hdg : decode cc pc = .ok (.astore i, 2)) (h : q_store A i 2 = some A') (H : as_in ad sm fl α0 S0 mod α A lv st S) (k : sp_K p l e0 R s0 m args below meth c0 Q D tc ad kd N nL A0 sm fl α0 S0 mod α n (pc + 2) A') : fw_W p l e0 R s0 m args below meth c0 Q D tc ad kd N nL A0 pc lv st S n := by
  obtain ⟨x, st', rfl, h3, h2⟩ := q_store_in h H
  obtain ⟨y, e⟩ := av_V_a (ad := ad) (sm := sm) (x := x) (by omega)
  rw [e] at h2 ⊢
  exact fw_astore C0 hn hdg (k _ _ _ _ al_le.refl h2)
def q_iinc (A : as_T) (i : Nat) (o : Int) : Option as_T := match as_loc A.2.1 i with
  | some v => match q_av A v 0 with
    | some a => if (Int32.ofInt o).toInt = o then some (A.1 ++ [(av_add a (0, o, o, 0), q_addc A v a o)], as_st1 (A.1 ++ [(av_add a (0, o, o, 0), q_addc A v a o)]) A.2.1 i A.1.length, A.2.2) else none
    | none => none
  | none => none
theorem sp_iinc (C0 : fw_C p s0 m args meth c0 D tc A0 own cc nL) {i : Nat} {o : Int} (hn : i < nL) (hdg : decode cc pc = .ok (.iinc i o, 3)) (h : q_iinc A i o = some A') (H : as_in ad sm fl α0 S0 mod α A lv st S) (k : sp_K p l e0 R s0 m args below meth c0 Q D tc ad kd N nL A0 sm fl α0 S0 mod α n (pc + 3) A') : fw_W p l e0 R s0 m args below meth c0 Q D tc ad kd N nL A0 pc lv st S n := by
  unfold q_iinc at h
  split at h
  · rename_i v hv
    split at h
    · rename_i a ha
      split at h
      · rename_i ho
        cases h
        obtain ⟨x, g1, g2⟩ := as_local (as_q H rfl) hv
        obtain ⟨d, h1, h2⟩ := q_av_some ha
        obtain ⟨q, q1, q2, -⟩ := en_some H.2.1 g1
        cases q1.symm.trans h1
        have e := q2.1.trans h2
        obtain ⟨kx, x⟩ := x
        dsimp only at e
        subst e
        have hx : (Int32.ofInt x).toInt = x := av_int q2 h2
        have g2 : (i, Value.int (Int32.ofInt x)) ∈ lv := g2
        refine fw_iinc C0 g2 hn hdg (k (α ++ [(0, (Int32.ofInt x + Int32.ofInt o).toInt)]) _ _ _ al_le_app ?_)
        have hadd : av_in (av_add a (0, o, o, 0)) (0, (Int32.ofInt x + Int32.ofInt o).toInt) := av_add_in (by rw [hx]; exact q2) ⟨rfl, (av_top_in _).2.1, by dsimp only; omega, by dsimp only; omega, by dsimp only; rw [ho, Int.sub_self]; exact Int.dvd_zero _⟩
        have hnew := as_new (d := q_addc A v a o) (as_q H rfl) hadd (fun w o' hw => by
          unfold q_addc at hw
          split at hw
          · rename_i hr
            obtain ⟨z, z1, z2⟩ := q_lin_in (o := o) H.2.1 g1
            rw [Option.some.inj hw] at z1 z2
            refine ⟨rfl, (0, z), z1, rfl, ?_⟩
            have hx1 := q2.2.2.1
            have hx2 := q2.2.2.2.1
            dsimp only at hx1 hx2 z2 ⊢
            rw [← z2, Int32.toInt_add, hx, ho]
            exact av_wrap (by omega) (by omega)
          · cases hw)
        have hlen : α.length = A.1.length := H.2.1.1
        have hst := as_store1 (i := i) (v := A.1.length) (x := (0, (Int32.ofInt x + Int32.ofInt o).toInt)) hnew (by rw [← hlen]; exact al_last)
        have e1 : av_V ad sm (0, (Int32.ofInt x + Int32.ofInt o).toInt) = .int (Int32.ofInt x + Int32.ofInt o) := by show Value.int (Int32.ofInt _) = _; rw [Int32.ofInt_toInt]
        rw [e1] at hst
        exact hst
      · cases h
    · cases h
  · cases h
theorem sp_goto (C0 : fw_C p s0 m args meth c0 D tc A0 own cc nL) {off : Int} {tgt : Nat} (hdg : decode cc pc = .ok (.goto off, 3)) (ht : (pc : Int) + off = (tgt : Int)) (H : as_in ad sm fl α0 S0 mod α A lv st S) (k : sp_K p l e0 R s0 m args below meth c0 Q D tc ad kd N nL A0 sm fl α0 S0 mod α n tgt A) : fw_W p l e0 R s0 m args below meth c0 Q D tc ad kd N nL A0 pc lv st S n :=
  fw_goto C0 ht hdg (k _ _ _ _ al_le.refl H)
end SP
