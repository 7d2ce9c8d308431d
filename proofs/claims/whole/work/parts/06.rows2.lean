/-! ===== rows: constants, locals, branches, ends, calls ===== -/
section QB
variable {l : Launch} {E : qV} {p : Program} {e : Env} {R : Room} {s : State} {m : MethodId} {args : Array Value} {below : List Frame} {meth : Method} {c : Code} {H : Heap} {locs : List Loc} {cells slots : Nat} {Q : State → Prop} {cc : ByteArray} {own : String} {nL : Nat} {rt : Option FieldType} {pc : Nat} {ls : Array Slot} {rest : List Value} {g : qS} {α : Type} {res : α}
theorem q_it {P : Prop} {inst : Decidable P} {a b : Option α} {G : Prop} (hf : (@ite _ P inst a b) = some res) (kt : P → a = some res → G) (kf : ¬ P → b = some res → G) : G := by
  by_cases h : P
  · rw [if_pos h] at hf; exact kt h hf
  · rw [if_neg h] at hf; exact kf h hf

theorem q_ifeq (C : q_C E p s m args meth c cc own nL rt) {x : Int32} {off : Int} {tgt : Nat} (hd : decode cc pc = .ok (.ifCond .eq off, 3)) (ht : (pc : Int) + off = (tgt : Int)) {inst : Decidable (x = 0)} {a b : Option α} (hf : (@ite _ (x = 0) inst a b) = some res)
    (kt : a = some res → W p l e R s m args below meth c H locs cells slots Q (F0 m tgt ls rest)) (kf : b = some res → W p l e R s m args below meth c H locs cells slots Q (F0 m (pc + 3) ls rest)) : W p l e R s m args below meth c H locs cells slots Q (F0 m pc ls (.int x :: rest)) := by
  by_cases h : x = 0
  · rw [if_pos h] at hf
    exact lv_if_eq C.1 C.2.1 hd ht (fun z => kt hf) (fun z => absurd h z)
  · rw [if_neg h] at hf
    exact lv_if_eq C.1 C.2.1 hd ht (fun z => absurd z h) (fun z => kf hf)

theorem q_ifne (C : q_C E p s m args meth c cc own nL rt) {x : Int32} {off : Int} {tgt : Nat} (hd : decode cc pc = .ok (.ifCond .ne off, 3)) (ht : (pc : Int) + off = (tgt : Int)) {inst : Decidable (x = 0)} {a b : Option α} (hf : (@ite _ (x = 0) inst a b) = some res)
    (kt : b = some res → W p l e R s m args below meth c H locs cells slots Q (F0 m tgt ls rest)) (kf : a = some res → W p l e R s m args below meth c H locs cells slots Q (F0 m (pc + 3) ls rest)) : W p l e R s m args below meth c H locs cells slots Q (F0 m pc ls (.int x :: rest)) := by
  by_cases h : x = 0
  · rw [if_pos h] at hf
    exact lv_if_ne C.1 C.2.1 hd ht (fun z => absurd h z) (fun z => kf hf)
  · rw [if_neg h] at hf
    exact lv_if_ne C.1 C.2.1 hd ht (fun z => kt hf) (fun z => absurd z h)

theorem q_iflt (C : q_C E p s m args meth c cc own nL rt) {x : Int32} {off : Int} {tgt : Nat} (hd : decode cc pc = .ok (.ifCond .lt off, 3)) (ht : (pc : Int) + off = (tgt : Int)) {inst : Decidable (x < 0)} {a b : Option α} (hf : (@ite _ (x < 0) inst a b) = some res)
    (kt : a = some res → W p l e R s m args below meth c H locs cells slots Q (F0 m tgt ls rest)) (kf : b = some res → W p l e R s m args below meth c H locs cells slots Q (F0 m (pc + 3) ls rest)) : W p l e R s m args below meth c H locs cells slots Q (F0 m pc ls (.int x :: rest)) := by
  by_cases h : x < 0
  · rw [if_pos h] at hf
    exact lv_if_lt C.1 C.2.1 hd ht (fun z => kt hf) (fun z => absurd h z)
  · rw [if_neg h] at hf
    exact lv_if_lt C.1 C.2.1 hd ht (fun z => absurd z h) (fun z => kf hf)

theorem q_ifge (C : q_C E p s m args meth c cc own nL rt) {x : Int32} {off : Int} {tgt : Nat} (hd : decode cc pc = .ok (.ifCond .ge off, 3)) (ht : (pc : Int) + off = (tgt : Int)) {inst : Decidable (0 ≤ x)} {a b : Option α} (hf : (@ite _ (0 ≤ x) inst a b) = some res)
    (kt : a = some res → W p l e R s m args below meth c H locs cells slots Q (F0 m tgt ls rest)) (kf : b = some res → W p l e R s m args below meth c H locs cells slots Q (F0 m (pc + 3) ls rest)) : W p l e R s m args below meth c H locs cells slots Q (F0 m pc ls (.int x :: rest)) := by
  by_cases h : 0 ≤ x
  · rw [if_pos h] at hf
    exact lv_if_ge C.1 C.2.1 hd ht (fun z => kt hf) (fun z => absurd h z)
  · rw [if_neg h] at hf
    exact lv_if_ge C.1 C.2.1 hd ht (fun z => absurd z h) (fun z => kf hf)

theorem q_ifgt (C : q_C E p s m args meth c cc own nL rt) {x : Int32} {off : Int} {tgt : Nat} (hd : decode cc pc = .ok (.ifCond .gt off, 3)) (ht : (pc : Int) + off = (tgt : Int)) {inst : Decidable (0 < x)} {a b : Option α} (hf : (@ite _ (0 < x) inst a b) = some res)
    (kt : a = some res → W p l e R s m args below meth c H locs cells slots Q (F0 m tgt ls rest)) (kf : b = some res → W p l e R s m args below meth c H locs cells slots Q (F0 m (pc + 3) ls rest)) : W p l e R s m args below meth c H locs cells slots Q (F0 m pc ls (.int x :: rest)) := by
  by_cases h : 0 < x
  · rw [if_pos h] at hf
    exact lv_if_gt C.1 C.2.1 hd ht (fun z => kt hf) (fun z => absurd h z)
  · rw [if_neg h] at hf
    exact lv_if_gt C.1 C.2.1 hd ht (fun z => absurd z h) (fun z => kf hf)

theorem q_ifle (C : q_C E p s m args meth c cc own nL rt) {x : Int32} {off : Int} {tgt : Nat} (hd : decode cc pc = .ok (.ifCond .le off, 3)) (ht : (pc : Int) + off = (tgt : Int)) {inst : Decidable (x ≤ 0)} {a b : Option α} (hf : (@ite _ (x ≤ 0) inst a b) = some res)
    (kt : a = some res → W p l e R s m args below meth c H locs cells slots Q (F0 m tgt ls rest)) (kf : b = some res → W p l e R s m args below meth c H locs cells slots Q (F0 m (pc + 3) ls rest)) : W p l e R s m args below meth c H locs cells slots Q (F0 m pc ls (.int x :: rest)) := by
  by_cases h : x ≤ 0
  · rw [if_pos h] at hf
    exact lv_if_le C.1 C.2.1 hd ht (fun z => kt hf) (fun z => absurd h z)
  · rw [if_neg h] at hf
    exact lv_if_le C.1 C.2.1 hd ht (fun z => absurd z h) (fun z => kf hf)

theorem q_iceq (C : q_C E p s m args meth c cc own nL rt) {x y : Int32} {off : Int} {tgt : Nat} (hd : decode cc pc = .ok (.if_icmp .eq off, 3)) (ht : (pc : Int) + off = (tgt : Int)) {inst : Decidable (x = y)} {a b : Option α} (hf : (@ite _ (x = y) inst a b) = some res)
    (kt : a = some res → W p l e R s m args below meth c H locs cells slots Q (F0 m tgt ls rest)) (kf : b = some res → W p l e R s m args below meth c H locs cells slots Q (F0 m (pc + 3) ls rest)) : W p l e R s m args below meth c H locs cells slots Q (F0 m pc ls (.int y :: .int x :: rest)) := by
  by_cases h : x = y
  · rw [if_pos h] at hf
    exact lv_icmp_eq C.1 C.2.1 hd ht (fun z => kt hf) (fun z => absurd h z)
  · rw [if_neg h] at hf
    exact lv_icmp_eq C.1 C.2.1 hd ht (fun z => absurd z h) (fun z => kf hf)

theorem q_icne (C : q_C E p s m args meth c cc own nL rt) {x y : Int32} {off : Int} {tgt : Nat} (hd : decode cc pc = .ok (.if_icmp .ne off, 3)) (ht : (pc : Int) + off = (tgt : Int)) {inst : Decidable (x = y)} {a b : Option α} (hf : (@ite _ (x = y) inst a b) = some res)
    (kt : b = some res → W p l e R s m args below meth c H locs cells slots Q (F0 m tgt ls rest)) (kf : a = some res → W p l e R s m args below meth c H locs cells slots Q (F0 m (pc + 3) ls rest)) : W p l e R s m args below meth c H locs cells slots Q (F0 m pc ls (.int y :: .int x :: rest)) := by
  by_cases h : x = y
  · rw [if_pos h] at hf
    exact lv_icmp_ne C.1 C.2.1 hd ht (fun z => absurd h z) (fun z => kf hf)
  · rw [if_neg h] at hf
    exact lv_icmp_ne C.1 C.2.1 hd ht (fun z => kt hf) (fun z => absurd z h)

theorem q_iclt (C : q_C E p s m args meth c cc own nL rt) {x y : Int32} {off : Int} {tgt : Nat} (hd : decode cc pc = .ok (.if_icmp .lt off, 3)) (ht : (pc : Int) + off = (tgt : Int)) {inst : Decidable (x < y)} {a b : Option α} (hf : (@ite _ (x < y) inst a b) = some res)
    (kt : a = some res → W p l e R s m args below meth c H locs cells slots Q (F0 m tgt ls rest)) (kf : b = some res → W p l e R s m args below meth c H locs cells slots Q (F0 m (pc + 3) ls rest)) : W p l e R s m args below meth c H locs cells slots Q (F0 m pc ls (.int y :: .int x :: rest)) := by
  by_cases h : x < y
  · rw [if_pos h] at hf
    exact lv_icmp_lt C.1 C.2.1 hd ht (fun z => kt hf) (fun z => absurd h z)
  · rw [if_neg h] at hf
    exact lv_icmp_lt C.1 C.2.1 hd ht (fun z => absurd z h) (fun z => kf hf)

theorem q_icge (C : q_C E p s m args meth c cc own nL rt) {x y : Int32} {off : Int} {tgt : Nat} (hd : decode cc pc = .ok (.if_icmp .ge off, 3)) (ht : (pc : Int) + off = (tgt : Int)) {inst : Decidable (y ≤ x)} {a b : Option α} (hf : (@ite _ (y ≤ x) inst a b) = some res)
    (kt : a = some res → W p l e R s m args below meth c H locs cells slots Q (F0 m tgt ls rest)) (kf : b = some res → W p l e R s m args below meth c H locs cells slots Q (F0 m (pc + 3) ls rest)) : W p l e R s m args below meth c H locs cells slots Q (F0 m pc ls (.int y :: .int x :: rest)) := by
  by_cases h : y ≤ x
  · rw [if_pos h] at hf
    exact lv_icmp_ge C.1 C.2.1 hd ht (fun z => kt hf) (fun z => absurd h z)
  · rw [if_neg h] at hf
    exact lv_icmp_ge C.1 C.2.1 hd ht (fun z => absurd z h) (fun z => kf hf)

theorem q_icgt (C : q_C E p s m args meth c cc own nL rt) {x y : Int32} {off : Int} {tgt : Nat} (hd : decode cc pc = .ok (.if_icmp .gt off, 3)) (ht : (pc : Int) + off = (tgt : Int)) {inst : Decidable (y < x)} {a b : Option α} (hf : (@ite _ (y < x) inst a b) = some res)
    (kt : a = some res → W p l e R s m args below meth c H locs cells slots Q (F0 m tgt ls rest)) (kf : b = some res → W p l e R s m args below meth c H locs cells slots Q (F0 m (pc + 3) ls rest)) : W p l e R s m args below meth c H locs cells slots Q (F0 m pc ls (.int y :: .int x :: rest)) := by
  by_cases h : y < x
  · rw [if_pos h] at hf
    exact lv_icmp_gt C.1 C.2.1 hd ht (fun z => kt hf) (fun z => absurd h z)
  · rw [if_neg h] at hf
    exact lv_icmp_gt C.1 C.2.1 hd ht (fun z => absurd z h) (fun z => kf hf)

theorem q_icle (C : q_C E p s m args meth c cc own nL rt) {x y : Int32} {off : Int} {tgt : Nat} (hd : decode cc pc = .ok (.if_icmp .le off, 3)) (ht : (pc : Int) + off = (tgt : Int)) {inst : Decidable (x ≤ y)} {a b : Option α} (hf : (@ite _ (x ≤ y) inst a b) = some res)
    (kt : a = some res → W p l e R s m args below meth c H locs cells slots Q (F0 m tgt ls rest)) (kf : b = some res → W p l e R s m args below meth c H locs cells slots Q (F0 m (pc + 3) ls rest)) : W p l e R s m args below meth c H locs cells slots Q (F0 m pc ls (.int y :: .int x :: rest)) := by
  by_cases h : x ≤ y
  · rw [if_pos h] at hf
    exact lv_icmp_le C.1 C.2.1 hd ht (fun z => kt hf) (fun z => absurd h z)
  · rw [if_neg h] at hf
    exact lv_icmp_le C.1 C.2.1 hd ht (fun z => absurd z h) (fun z => kf hf)

theorem q_lc1 (x y : Int64) : lg_cmp x y = 0 ↔ x = y := by
  unfold lg_cmp
  split
  · rename_i h; exact ⟨fun z => absurd z (by decide), fun z => absurd (z ▸ h) Int64.lt_irrefl⟩
  · split
    · rename_i h; exact ⟨fun _ => h, fun _ => rfl⟩
    · rename_i h; exact ⟨fun z => absurd z (by decide), fun z => absurd z h⟩
theorem q_lc2 (x y : Int64) : lg_cmp x y ≤ 0 ↔ x ≤ y := by
  unfold lg_cmp
  split
  · rename_i h; exact ⟨fun z => absurd z (by decide), fun z => absurd h (Int64.not_lt.mpr z)⟩
  · rename_i h; split
    · exact ⟨fun _ => Int64.not_lt.mp h, fun _ => by decide⟩
    · exact ⟨fun _ => Int64.not_lt.mp h, fun _ => by decide⟩
theorem q_lc3 (x y : Int64) : lg_cmp x y < 0 ↔ x < y := by
  unfold lg_cmp
  split
  · rename_i h; exact ⟨fun z => absurd z (by decide), fun z => absurd (Int64.lt_trans h z) Int64.lt_irrefl⟩
  · rename_i h; split
    · rename_i h2; exact ⟨fun z => absurd z (by decide), fun z => absurd (h2 ▸ z) Int64.lt_irrefl⟩
    · rename_i h2; exact ⟨fun _ => Int64.lt_of_le_of_ne (Int64.not_lt.mp h) h2, fun _ => by decide⟩

theorem q_lceq (C : q_C E p s m args meth c cc own nL rt) {x y : Int64} {off : Int} {tgt : Nat} (hd : decode cc pc = .ok (.lcmp, 1)) (hd2 : decode cc (pc + 1) = .ok (.ifCond .eq off, 3)) (ht : ((pc + 1 : Nat) : Int) + off = (tgt : Int)) {inst : Decidable (x = y)} {a b : Option α} (hf : (@ite _ (x = y) inst a b) = some res)
    (kt : a = some res → W p l e R s m args below meth c H locs cells slots Q (F0 m tgt ls rest)) (kf : b = some res → W p l e R s m args below meth c H locs cells slots Q (F0 m (pc + 1 + 3) ls rest)) : W p l e R s m args below meth c H locs cells slots Q (F0 m pc ls (.long y :: .long x :: rest)) := by
  refine W.lcmp C.1 C.2.1 hd ?_
  by_cases h : x = y
  · rw [if_pos h] at hf
    exact lv_if_eq C.1 C.2.1 hd2 ht (fun z => kt hf) (fun z => absurd ((q_lc1 x y).mpr h) z)
  · rw [if_neg h] at hf
    exact lv_if_eq C.1 C.2.1 hd2 ht (fun z => absurd ((q_lc1 x y).mp z) h) (fun z => kf hf)

theorem q_lcne (C : q_C E p s m args meth c cc own nL rt) {x y : Int64} {off : Int} {tgt : Nat} (hd : decode cc pc = .ok (.lcmp, 1)) (hd2 : decode cc (pc + 1) = .ok (.ifCond .ne off, 3)) (ht : ((pc + 1 : Nat) : Int) + off = (tgt : Int)) {inst : Decidable (x = y)} {a b : Option α} (hf : (@ite _ (x = y) inst a b) = some res)
    (kt : b = some res → W p l e R s m args below meth c H locs cells slots Q (F0 m tgt ls rest)) (kf : a = some res → W p l e R s m args below meth c H locs cells slots Q (F0 m (pc + 1 + 3) ls rest)) : W p l e R s m args below meth c H locs cells slots Q (F0 m pc ls (.long y :: .long x :: rest)) := by
  refine W.lcmp C.1 C.2.1 hd ?_
  by_cases h : x = y
  · rw [if_pos h] at hf
    exact lv_if_ne C.1 C.2.1 hd2 ht (fun z => absurd h (fun h => z ((q_lc1 x y).mpr h))) (fun z => kf hf)
  · rw [if_neg h] at hf
    exact lv_if_ne C.1 C.2.1 hd2 ht (fun z => kt hf) (fun z => absurd ((q_lc1 x y).mp z) h)

theorem q_lcle (C : q_C E p s m args meth c cc own nL rt) {x y : Int64} {off : Int} {tgt : Nat} (hd : decode cc pc = .ok (.lcmp, 1)) (hd2 : decode cc (pc + 1) = .ok (.ifCond .le off, 3)) (ht : ((pc + 1 : Nat) : Int) + off = (tgt : Int)) {inst : Decidable (x ≤ y)} {a b : Option α} (hf : (@ite _ (x ≤ y) inst a b) = some res)
    (kt : a = some res → W p l e R s m args below meth c H locs cells slots Q (F0 m tgt ls rest)) (kf : b = some res → W p l e R s m args below meth c H locs cells slots Q (F0 m (pc + 1 + 3) ls rest)) : W p l e R s m args below meth c H locs cells slots Q (F0 m pc ls (.long y :: .long x :: rest)) := by
  refine W.lcmp C.1 C.2.1 hd ?_
  by_cases h : x ≤ y
  · rw [if_pos h] at hf
    exact lv_if_le C.1 C.2.1 hd2 ht (fun z => kt hf) (fun z => absurd ((q_lc2 x y).mpr h) z)
  · rw [if_neg h] at hf
    exact lv_if_le C.1 C.2.1 hd2 ht (fun z => absurd ((q_lc2 x y).mp z) h) (fun z => kf hf)

theorem q_lclt (C : q_C E p s m args meth c cc own nL rt) {x y : Int64} {off : Int} {tgt : Nat} (hd : decode cc pc = .ok (.lcmp, 1)) (hd2 : decode cc (pc + 1) = .ok (.ifCond .lt off, 3)) (ht : ((pc + 1 : Nat) : Int) + off = (tgt : Int)) {inst : Decidable (x < y)} {a b : Option α} (hf : (@ite _ (x < y) inst a b) = some res)
    (kt : a = some res → W p l e R s m args below meth c H locs cells slots Q (F0 m tgt ls rest)) (kf : b = some res → W p l e R s m args below meth c H locs cells slots Q (F0 m (pc + 1 + 3) ls rest)) : W p l e R s m args below meth c H locs cells slots Q (F0 m pc ls (.long y :: .long x :: rest)) := by
  refine W.lcmp C.1 C.2.1 hd ?_
  by_cases h : x < y
  · rw [if_pos h] at hf
    exact lv_if_lt C.1 C.2.1 hd2 ht (fun z => kt hf) (fun z => absurd ((q_lc3 x y).mpr h) z)
  · rw [if_neg h] at hf
    exact lv_if_lt C.1 C.2.1 hd2 ht (fun z => absurd ((q_lc3 x y).mp z) h) (fun z => kf hf)

theorem q_lc4 (x y : Int64) : 0 ≤ lg_cmp x y ↔ ¬ x < y := by rw [← q_lc3]; exact Int32.not_lt.symm
theorem q_lc5 (x y : Int64) : 0 < lg_cmp x y ↔ ¬ x ≤ y := by rw [← q_lc2]; exact Int32.not_le.symm

theorem q_lcge (C : q_C E p s m args meth c cc own nL rt) {x y : Int64} {off : Int} {tgt : Nat} (hd : decode cc pc = .ok (.lcmp, 1)) (hd2 : decode cc (pc + 1) = .ok (.ifCond .ge off, 3)) (ht : ((pc + 1 : Nat) : Int) + off = (tgt : Int)) {inst : Decidable (x < y)} {a b : Option α} (hf : (@ite _ (x < y) inst a b) = some res)
    (kt : b = some res → W p l e R s m args below meth c H locs cells slots Q (F0 m tgt ls rest)) (kf : a = some res → W p l e R s m args below meth c H locs cells slots Q (F0 m (pc + 1 + 3) ls rest)) : W p l e R s m args below meth c H locs cells slots Q (F0 m pc ls (.long y :: .long x :: rest)) := by
  refine W.lcmp C.1 C.2.1 hd ?_
  by_cases h : x < y
  · rw [if_pos h] at hf
    exact lv_if_ge C.1 C.2.1 hd2 ht (fun z => absurd h ((q_lc4 x y).mp z)) (fun z => kf hf)
  · rw [if_neg h] at hf
    exact lv_if_ge C.1 C.2.1 hd2 ht (fun z => kt hf) (fun z => absurd ((q_lc4 x y).mpr h) z)

theorem q_lcgt (C : q_C E p s m args meth c cc own nL rt) {x y : Int64} {off : Int} {tgt : Nat} (hd : decode cc pc = .ok (.lcmp, 1)) (hd2 : decode cc (pc + 1) = .ok (.ifCond .gt off, 3)) (ht : ((pc + 1 : Nat) : Int) + off = (tgt : Int)) {inst : Decidable (x ≤ y)} {a b : Option α} (hf : (@ite _ (x ≤ y) inst a b) = some res)
    (kt : b = some res → W p l e R s m args below meth c H locs cells slots Q (F0 m tgt ls rest)) (kf : a = some res → W p l e R s m args below meth c H locs cells slots Q (F0 m (pc + 1 + 3) ls rest)) : W p l e R s m args below meth c H locs cells slots Q (F0 m pc ls (.long y :: .long x :: rest)) := by
  refine W.lcmp C.1 C.2.1 hd ?_
  by_cases h : x ≤ y
  · rw [if_pos h] at hf
    exact lv_if_gt C.1 C.2.1 hd2 ht (fun z => absurd h ((q_lc5 x y).mp z)) (fun z => kf hf)
  · rw [if_neg h] at hf
    exact lv_if_gt C.1 C.2.1 hd2 ht (fun z => kt hf) (fun z => absurd ((q_lc5 x y).mpr h) z)

theorem q_idiv (C : q_C E p s m args meth c cc own nL rt) {x y : Int32} (hd : decode cc pc = .ok (.idiv, 1)) {inst : Decidable (y = 0)} {b : Option α} (hf : (@ite _ (y = 0) inst none b) = some res)
    (k : b = some res → W p l e R s m args below meth c H locs cells slots Q (F0 m (pc + 1) ls (.int (x / y) :: rest))) : W p l e R s m args below meth c H locs cells slots Q (F0 m pc ls (.int y :: .int x :: rest)) := by
  by_cases h : y = 0
  · rw [if_pos h] at hf; cases hf
  · rw [if_neg h] at hf
    exact lv_idiv C.1 C.2.1 hd h (k hf)

theorem q_irem (C : q_C E p s m args meth c cc own nL rt) {x y : Int32} (hd : decode cc pc = .ok (.irem, 1)) {inst : Decidable (y = 0)} {b : Option α} (hf : (@ite _ (y = 0) inst none b) = some res)
    (k : b = some res → W p l e R s m args below meth c H locs cells slots Q (F0 m (pc + 1) ls (.int (x - x / y * y) :: rest))) : W p l e R s m args below meth c H locs cells slots Q (F0 m pc ls (.int y :: .int x :: rest)) := by
  by_cases h : y = 0
  · rw [if_pos h] at hf; cases hf
  · rw [if_neg h] at hf
    exact lv_irem C.1 C.2.1 hd h (k hf)

theorem q_ldiv (C : q_C E p s m args meth c cc own nL rt) {x y : Int64} (hd : decode cc pc = .ok (.ldiv, 1)) {inst : Decidable (y = 0)} {b : Option α} (hf : (@ite _ (y = 0) inst none b) = some res)
    (k : b = some res → W p l e R s m args below meth c H locs cells slots Q (F0 m (pc + 1) ls (.long (x / y) :: rest))) : W p l e R s m args below meth c H locs cells slots Q (F0 m pc ls (.long y :: .long x :: rest)) := by
  by_cases h : y = 0
  · rw [if_pos h] at hf; cases hf
  · rw [if_neg h] at hf
    exact lv_ldiv C.1 C.2.1 hd h (k hf)

theorem q_lrem (C : q_C E p s m args meth c cc own nL rt) {x y : Int64} (hd : decode cc pc = .ok (.lrem, 1)) {inst : Decidable (y = 0)} {b : Option α} (hf : (@ite _ (y = 0) inst none b) = some res)
    (k : b = some res → W p l e R s m args below meth c H locs cells slots Q (F0 m (pc + 1) ls (.long (x - x / y * y) :: rest))) : W p l e R s m args below meth c H locs cells slots Q (F0 m pc ls (.long y :: .long x :: rest)) := by
  by_cases h : y = 0
  · rw [if_pos h] at hf; cases hf
  · rw [if_neg h] at hf
    exact lv_lrem C.1 C.2.1 hd h (k hf)

end QB
/-! contracts -/
def q_Pc (E : qV) (av : List Value) (g : qS) : Array Value → State → Prop := fun a U => a = av.toArray ∧ q_EV E U U.heap ∧ q_hw E g U.heap
def q_QR (v : Option Value) : Array Value → State → Outcome → State → Prop := fun _ st o t => o = .returned v ∧ t.heap = st.heap
def q_QW (E : qV) (v : Option Value) (g : qS) : Array Value → State → Outcome → State → Prop := fun _ st o t => o = .returned v ∧ q_hw E g t.heap ∧ t.heap.size = st.heap.size ∧ ∀ q : Nat, q < st.heap.size → ¬ q_A E q → t.heap[q]? = st.heap[q]?
abbrev q_rm (F L : Nat) : Room := { frames := F, cells := 0, slots := 0, locals := L }
/-- a method that writes nothing -/
def q_MR (l : Launch) (y : MethodName) (b : ByteArray) (n : Nat) (rt : Option FieldType) (F L : Nat) (E : qV) (av : List Value) (g : qS) (v : Option Value) : Prop := Met l y (Cond.code y b n rt :: q_GW) (q_rm F L) (q_Pc E av g) (q_QR v) 0 0 (fun _ => False)
/-- a method that writes -/
def q_MW (l : Launch) (y : MethodName) (b : ByteArray) (n : Nat) (rt : Option FieldType) (F L : Nat) (E : qV) (av : List Value) (g : qS) (v : Option Value) (g' : qS) : Prop := Met l y (Cond.code y b n rt :: q_GW) (q_rm F L) (q_Pc E av g) (q_QW E v g') 0 0 (q_A E)
theorem q_blind {E : qV} {av : List Value} {g : qS} : FrameBlind (q_Pc E av g) := fun _ U _ _ h => ⟨h.1, q_EV.same (u := U) rfl h.2.1, h.2.2⟩
theorem q_pay {s : State} {args : Array Value} (hts : ∀ w ∈ q_GW, w.before args s = true) {w : Cond} (h : w ∈ q_GW) : ∀ (a' : Array Value) (U : State), s.WarmedH U.vm → w.before a' U = true := fun _ _ hW => word_at hW (good_of_word (List.mem_filter.mp h).2) (hts w h)
/-- a virtual call's words: the class ci of the receiver, np arguments -/
def q_cw (own : String) (idx ci : Nat) (y : MethodName) (b : ByteArray) (n : Nat) (rt : Option FieldType) (np : Nat) : Prop :=
  Cond.methodLink own idx y ∈ q_GW ∧ Cond.instanceMethod y ∈ q_GW ∧ Cond.selects y.cls y y ∈ q_GW ∧ Cond.initialized y.cls ∈ q_GW ∧ Cond.code y b n rt ∈ q_GW ∧ (y.cls ≠ "java/lang/invoke/MethodHandle" ∧ y.cls ≠ "java/lang/invoke/VarHandle") ∧ (parseMethodDescriptor y.desc).map (fun d => d.parameters.length) = some np ∧ ∃ (T : u_T) (N : Nat), vwCl[ci]? = some (y.cls, T, N)
/-- a static call's words -/
def q_cs (own : String) (idx : Nat) (y : MethodName) (b : ByteArray) (n : Nat) (rt : Option FieldType) (np : Nat) : Prop :=
  Cond.methodLink own idx y ∈ q_GW ∧ Cond.static y ∈ q_GW ∧ Cond.initialized y.cls ∈ q_GW ∧ Cond.code y b n rt ∈ q_GW ∧ (y.cls ≠ "java/lang/invoke/MethodHandle" ∧ y.cls ≠ "java/lang/invoke/VarHandle") ∧ (parseMethodDescriptor y.desc).map (fun d => d.parameters.length) = some np
section QC
variable {l : Launch} {E : qV} {p : Program} {e : Env} {R : Room} {s : State} {m : MethodId} {args : Array Value} {below : List Frame} {meth : Method} {c : Code} {H : Heap} {locs : List Loc} {cells slots : Nat} {Q : State → Prop} {cc : ByteArray} {own : String} {nL : Nat} {rt : Option FieldType} {pc : Nat} {ls : Array Slot} {rest st : List Value} {g : qS} {α : Type} {res : α}
theorem q_cb (C : q_C E p s m args meth c cc own nL rt) {y : MethodName} {b : ByteArray} {n idx np F L : Nat} {rt' : Option FieldType} (h1 : Cond.methodLink own idx y ∈ q_GW) (h2 : Cond.initialized y.cls ∈ q_GW) (h3 : Cond.code y b n rt' ∈ q_GW) (h4 : y.cls ≠ "java/lang/invoke/MethodHandle" ∧ y.cls ≠ "java/lang/invoke/VarHandle") (h5 : (parseMethodDescriptor y.desc).map (fun d => d.parameters.length) = some np) (hR : (Nat.ble (F + 1) R.frames && Nat.ble (n + 19 + L) R.locals) = true) : CallB R s args own idx y b n rt' (Cond.code y b n rt' :: q_GW) (q_rm F L) 0 0 np := by
  obtain ⟨-, -, -, -, hts, -⟩ := C
  rw [Bool.and_eq_true] at hR
  have hR1 := Nat.le_of_ble_eq_true hR.1
  have hR2 := Nat.le_of_ble_eq_true hR.2
  refine ⟨rfl, rfl, hR1, by show 8 + (n + 11) + L ≤ _; omega, fun w hw => ?_, List.mem_cons_self, hts _ h3, hts _ h2, h4, fun sig h => ?_, hts _ h1⟩
  · rcases List.mem_cons.mp hw with rfl | h
    · exact q_pay hts h3
    · exact q_pay hts h
  · rw [h] at h5
    exact (Option.some.inj h5).symm
theorem q_pre (C : q_C E p s m args meth c cc own nL rt) (hj : q_J E s g H locs) {av : List Value} : PreS s H (q_Pc E av g) av := ⟨q_blind, fun U hU hW => ⟨rfl, by rw [hU]; exact (C.2.2.2.2.2.2.2.kept hj.2.2.1).warm hW, by rw [hU]; exact hj.1⟩⟩
theorem q_recv (C : q_C E p s m args meth c cc own nL rt) (hj : q_J E s g H locs) {r ci : Nat} {fs : List Value} {q : vw_C} (hc : vwCl[ci]? = some q) (hg : g r = some (.inr (ci, fs))) : ∃ cell : Cell, H[q_ad E r]? = some cell ∧ cell.vm.isStatics = false ∧ s.vm.findClass q.1 = some cell.cls := va_recv C.2.2.2.2.2.2.2.1 (q_P1 hj.1 hg) (q0 := 0) hc rfl
theorem q_runV (C : q_C E p s m args meth c cc own nL rt) (hj : q_J E s g H locs) {y : MethodName} {b : ByteArray} {n idx np F L ci r : Nat} {rt' : Option FieldType} (cw : q_cw own idx ci y b n rt' np) {As : List Value} {Qc : Array Value → State → Outcome → State → Prop} {free : Addr → Prop} (hM : Met l y (Cond.code y b n rt' :: q_GW) (q_rm F L) (q_Pc E (.ref (q_ad E r) :: As) g) Qc 0 0 free) (hg : ∃ fs, g r = some (.inr (ci, fs))) (hR : (Nat.ble (F + 1) R.frames && Nat.ble (n + 19 + L) R.locals) = true) {lv : List (Nat × Value)} (hl : lv_has ls nL lv) (hn : As.length = np) (hst : st = As.reverse ++ .ref (q_ad E r) :: rest) (hr8 : Nat.ble (rest.map fun v => v.category).sum 8 = true) (hd : decode cc pc = .ok (.invokevirtual idx, 3)) (hcs : cells ≤ R.cells ∧ slots ≤ R.slots) :
    va_Run p l e R s m args below meth c H locs cells slots 0 0 (F0 m pc ls st) rest (Qc (Value.ref (q_ad E r) :: As).toArray) free := by
  obtain ⟨h1, h2, h3, h4, h5, h6, h7, T, N, h8⟩ := cw
  obtain ⟨fs, hg⟩ := hg
  have hts := C.2.2.2.2.1
  exact va_runV (cc := cc) (nL := nL) (Ts := q_GW) (C := y.cls) ⟨C.1, C.2.1, C.2.2.1, C.2.2.2.1, hts⟩ hM ⟨q_cb C h1 h4 h5 h6 h7 hR, hts _ h2, hts _ h3⟩ ⟨q_blind, q_recv C hj h8 hg, (q_pre C hj).2⟩ rfl hn hl.1 hst (lv_room (Nat.le_of_ble_eq_true hr8)) hd hcs
theorem q_runS (C : q_C E p s m args meth c cc own nL rt) (hj : q_J E s g H locs) {y : MethodName} {b : ByteArray} {n idx np F L : Nat} {rt' : Option FieldType} (cw : q_cs own idx y b n rt' np) {As : List Value} {Qc : Array Value → State → Outcome → State → Prop} {free : Addr → Prop} (hM : Met l y (Cond.code y b n rt' :: q_GW) (q_rm F L) (q_Pc E As g) Qc 0 0 free) (hR : (Nat.ble (F + 1) R.frames && Nat.ble (n + 19 + L) R.locals) = true) {lv : List (Nat × Value)} (hl : lv_has ls nL lv) (hn : As.length = np) (hst : st = As.reverse ++ rest) (hr8 : Nat.ble (rest.map fun v => v.category).sum 8 = true) (hd : decode cc pc = .ok (.invokestatic idx, 3)) (hcs : cells ≤ R.cells ∧ slots ≤ R.slots) :
    va_Run p l e R s m args below meth c H locs cells slots 0 0 (F0 m pc ls st) rest (Qc As.toArray) free := by
  obtain ⟨h1, h2, h4, h5, h6, h7⟩ := cw
  have hts := C.2.2.2.2.1
  exact va_runS (cc := cc) (nL := nL) (Ts := q_GW) ⟨C.1, C.2.1, C.2.2.1, C.2.2.2.1, hts⟩ hM ⟨q_cb C h1 h4 h5 h6 h7 hR, hts _ h2⟩ (q_pre C hj) rfl hn hl.1 hst (lv_room (Nat.le_of_ble_eq_true hr8)) hd hcs
theorem q_endR {a : Array Value} {v : Option Value} (hr : va_Run p l e R s m args below meth c H locs cells slots 0 0 (F0 m pc ls st) rest (q_QR v a) (fun _ => False)) (k : W p l e R s m args below meth c H locs cells slots Q (F0 m (pc + 3) ls (v.toList ++ rest))) : W p l e R s m args below meth c H locs cells slots Q (F0 m pc ls st) := by
  intro T hT X
  obtain ⟨v', st₀, t, T', L, h0, X', hL, e1, e2, ⟨hv, hh⟩, sp⟩ := hr T hT X
  cases hv
  obtain ⟨t2, a1, b1⟩ := k T' (by rw [e1, hh, h0]) (Stand.forget X' (fun q h => (hL q h).elim))
  exact ⟨t2, sp t2 a1, b1⟩
theorem q_endW {a : Array Value} {v : Option Value} {g' : qS} (hj : q_J E s g H locs) (hr : va_Run p l e R s m args below meth c H locs cells slots 0 0 (F0 m pc ls st) rest (q_QW E v g' a) (q_A E)) (k : ∀ (H1 : Heap) (locs1 : List Loc), q_J E s g' H1 locs1 → W p l e R s m args below meth c H1 locs1 cells slots Q (F0 m (pc + 3) ls (v.toList ++ rest))) : W p l e R s m args below meth c H locs cells slots Q (F0 m pc ls st) := by
  intro T hT X
  obtain ⟨v', st₀, t, T', L, h0, X', hL, e1, e2, ⟨hv, hw, hz, hk⟩, sp⟩ := hr T hT X
  cases hv
  rw [h0] at hz hk
  obtain ⟨hw0, hS1, hS2, hS3⟩ := hj
  obtain ⟨t2, a1, b1⟩ := k T'.heap (locs ++ L) ⟨by rw [e1]; exact hw, by rw [e1, hz]; exact hS1, fun q h1 h2 => by rw [e1, hk q (Nat.lt_of_lt_of_le h1 hS1) h2]; exact hS2 q h1 h2, fun q hq => by
      rcases List.mem_append.mp hq with h | h
      · exact hS3 q h
      · exact hL q h⟩ T' rfl X'
  exact ⟨t2, sp t2 a1, b1⟩
def q_b2 {α β γ : Type} (x : Option (α × β)) (f : α → β → Option γ) : Option γ := match x with
  | some (a, b) => f a b
  | none => none
theorem q_ob2 {α β γ : Type} {x : Option (α × β)} {f : α → β → Option γ} {r : γ} (h : q_b2 x f = some r) : ∃ a b, x = some (a, b) ∧ f a b = some r := by
  cases x with
  | none => cases h
  | some a => exact ⟨a.1, a.2, rfl, h⟩

theorem q_cVRI (C : q_C E p s m args meth c cc own nL rt) (hj : q_J E s g H locs) {y : MethodName} {b : ByteArray} {n idx np F L ci r : Nat} {rt' : Option FieldType} (cw : q_cw own idx ci y b n rt' np) {As : List Value} {call : Option Int32} {f : Int32 → Option α} (hf : call.bind f = some res) (hM : ∀ x, call = some x → q_MR l y b n rt' F L E (.ref (q_ad E r) :: As) g (some (.int x)) ∧ ∃ fs, g r = some (.inr (ci, fs))) (hR : (Nat.ble (F + 1) R.frames && Nat.ble (n + 19 + L) R.locals) = true) {lv : List (Nat × Value)} (hl : lv_has ls nL lv) (hn : As.length = np) (hst : st = As.reverse ++ .ref (q_ad E r) :: rest) (hr8 : Nat.ble (rest.map fun v => v.category).sum 8 = true) (hd : decode cc pc = .ok (.invokevirtual idx, 3)) (hcs : cells ≤ R.cells ∧ slots ≤ R.slots) (k : ∀ x, f x = some res → W p l e R s m args below meth c H locs cells slots Q (F0 m (pc + 3) ls (.int x :: rest))) : W p l e R s m args below meth c H locs cells slots Q (F0 m pc ls st) := by
  obtain ⟨x, h1, h2⟩ := q_ob hf
  exact q_endR (q_runV C hj cw (hM x h1).1 (hM x h1).2 hR hl hn hst hr8 hd hcs) (k x h2)

theorem q_cVWI (C : q_C E p s m args meth c cc own nL rt) (hj : q_J E s g H locs) {y : MethodName} {b : ByteArray} {n idx np F L ci r : Nat} {rt' : Option FieldType} (cw : q_cw own idx ci y b n rt' np) {As : List Value} {call : Option (Int32 × qS)} {f : Int32 → qS → Option α} (hf : q_b2 call f = some res) (hM : ∀ x g1, call = some (x, g1) → q_MW l y b n rt' F L E (.ref (q_ad E r) :: As) g (some (.int x)) g1 ∧ ∃ fs, g r = some (.inr (ci, fs))) (hR : (Nat.ble (F + 1) R.frames && Nat.ble (n + 19 + L) R.locals) = true) {lv : List (Nat × Value)} (hl : lv_has ls nL lv) (hn : As.length = np) (hst : st = As.reverse ++ .ref (q_ad E r) :: rest) (hr8 : Nat.ble (rest.map fun v => v.category).sum 8 = true) (hd : decode cc pc = .ok (.invokevirtual idx, 3)) (hcs : cells ≤ R.cells ∧ slots ≤ R.slots) (k : ∀ (x : Int32) (g1 : qS) (H1 : Heap) (locs1 : List Loc), q_J E s g1 H1 locs1 → f x g1 = some res → W p l e R s m args below meth c H1 locs1 cells slots Q (F0 m (pc + 3) ls (.int x :: rest))) : W p l e R s m args below meth c H locs cells slots Q (F0 m pc ls st) := by
  obtain ⟨x, g1, h1, h2⟩ := q_ob2 hf
  exact q_endW hj (q_runV C hj cw (hM x g1 h1).1 (hM x g1 h1).2 hR hl hn hst hr8 hd hcs) (fun H1 locs1 hj => k x g1 H1 locs1 hj h2)

theorem q_cVRL (C : q_C E p s m args meth c cc own nL rt) (hj : q_J E s g H locs) {y : MethodName} {b : ByteArray} {n idx np F L ci r : Nat} {rt' : Option FieldType} (cw : q_cw own idx ci y b n rt' np) {As : List Value} {call : Option Int64} {f : Int64 → Option α} (hf : call.bind f = some res) (hM : ∀ x, call = some x → q_MR l y b n rt' F L E (.ref (q_ad E r) :: As) g (some (.long x)) ∧ ∃ fs, g r = some (.inr (ci, fs))) (hR : (Nat.ble (F + 1) R.frames && Nat.ble (n + 19 + L) R.locals) = true) {lv : List (Nat × Value)} (hl : lv_has ls nL lv) (hn : As.length = np) (hst : st = As.reverse ++ .ref (q_ad E r) :: rest) (hr8 : Nat.ble (rest.map fun v => v.category).sum 8 = true) (hd : decode cc pc = .ok (.invokevirtual idx, 3)) (hcs : cells ≤ R.cells ∧ slots ≤ R.slots) (k : ∀ x, f x = some res → W p l e R s m args below meth c H locs cells slots Q (F0 m (pc + 3) ls (.long x :: rest))) : W p l e R s m args below meth c H locs cells slots Q (F0 m pc ls st) := by
  obtain ⟨x, h1, h2⟩ := q_ob hf
  exact q_endR (q_runV C hj cw (hM x h1).1 (hM x h1).2 hR hl hn hst hr8 hd hcs) (k x h2)

theorem q_cVWL (C : q_C E p s m args meth c cc own nL rt) (hj : q_J E s g H locs) {y : MethodName} {b : ByteArray} {n idx np F L ci r : Nat} {rt' : Option FieldType} (cw : q_cw own idx ci y b n rt' np) {As : List Value} {call : Option (Int64 × qS)} {f : Int64 → qS → Option α} (hf : q_b2 call f = some res) (hM : ∀ x g1, call = some (x, g1) → q_MW l y b n rt' F L E (.ref (q_ad E r) :: As) g (some (.long x)) g1 ∧ ∃ fs, g r = some (.inr (ci, fs))) (hR : (Nat.ble (F + 1) R.frames && Nat.ble (n + 19 + L) R.locals) = true) {lv : List (Nat × Value)} (hl : lv_has ls nL lv) (hn : As.length = np) (hst : st = As.reverse ++ .ref (q_ad E r) :: rest) (hr8 : Nat.ble (rest.map fun v => v.category).sum 8 = true) (hd : decode cc pc = .ok (.invokevirtual idx, 3)) (hcs : cells ≤ R.cells ∧ slots ≤ R.slots) (k : ∀ (x : Int64) (g1 : qS) (H1 : Heap) (locs1 : List Loc), q_J E s g1 H1 locs1 → f x g1 = some res → W p l e R s m args below meth c H1 locs1 cells slots Q (F0 m (pc + 3) ls (.long x :: rest))) : W p l e R s m args below meth c H locs cells slots Q (F0 m pc ls st) := by
  obtain ⟨x, g1, h1, h2⟩ := q_ob2 hf
  exact q_endW hj (q_runV C hj cw (hM x g1 h1).1 (hM x g1 h1).2 hR hl hn hst hr8 hd hcs) (fun H1 locs1 hj => k x g1 H1 locs1 hj h2)

theorem q_cVRS (C : q_C E p s m args meth c cc own nL rt) (hj : q_J E s g H locs) {y : MethodName} {b : ByteArray} {n idx np F L ci r : Nat} {rt' : Option FieldType} (cw : q_cw own idx ci y b n rt' np) {As : List Value} {call : Option Nat} {f : Nat → Option α} (hf : call.bind f = some res) (hM : ∀ x, call = some x → q_MR l y b n rt' F L E (.ref (q_ad E r) :: As) g (some (.ref (q_sa E x))) ∧ ∃ fs, g r = some (.inr (ci, fs))) (hR : (Nat.ble (F + 1) R.frames && Nat.ble (n + 19 + L) R.locals) = true) {lv : List (Nat × Value)} (hl : lv_has ls nL lv) (hn : As.length = np) (hst : st = As.reverse ++ .ref (q_ad E r) :: rest) (hr8 : Nat.ble (rest.map fun v => v.category).sum 8 = true) (hd : decode cc pc = .ok (.invokevirtual idx, 3)) (hcs : cells ≤ R.cells ∧ slots ≤ R.slots) (k : ∀ x, f x = some res → W p l e R s m args below meth c H locs cells slots Q (F0 m (pc + 3) ls (.ref (q_sa E x) :: rest))) : W p l e R s m args below meth c H locs cells slots Q (F0 m pc ls st) := by
  obtain ⟨x, h1, h2⟩ := q_ob hf
  exact q_endR (q_runV C hj cw (hM x h1).1 (hM x h1).2 hR hl hn hst hr8 hd hcs) (k x h2)

theorem q_cVRR (C : q_C E p s m args meth c cc own nL rt) (hj : q_J E s g H locs) {y : MethodName} {b : ByteArray} {n idx np F L ci r : Nat} {rt' : Option FieldType} (cw : q_cw own idx ci y b n rt' np) {As : List Value} {call : Option Nat} {f : Nat → Option α} (hf : call.bind f = some res) (hM : ∀ x, call = some x → q_MR l y b n rt' F L E (.ref (q_ad E r) :: As) g (some (.ref (q_ad E x))) ∧ ∃ fs, g r = some (.inr (ci, fs))) (hR : (Nat.ble (F + 1) R.frames && Nat.ble (n + 19 + L) R.locals) = true) {lv : List (Nat × Value)} (hl : lv_has ls nL lv) (hn : As.length = np) (hst : st = As.reverse ++ .ref (q_ad E r) :: rest) (hr8 : Nat.ble (rest.map fun v => v.category).sum 8 = true) (hd : decode cc pc = .ok (.invokevirtual idx, 3)) (hcs : cells ≤ R.cells ∧ slots ≤ R.slots) (k : ∀ x, f x = some res → W p l e R s m args below meth c H locs cells slots Q (F0 m (pc + 3) ls (.ref (q_ad E x) :: rest))) : W p l e R s m args below meth c H locs cells slots Q (F0 m pc ls st) := by
  obtain ⟨x, h1, h2⟩ := q_ob hf
  exact q_endR (q_runV C hj cw (hM x h1).1 (hM x h1).2 hR hl hn hst hr8 hd hcs) (k x h2)

theorem q_cVWR (C : q_C E p s m args meth c cc own nL rt) (hj : q_J E s g H locs) {y : MethodName} {b : ByteArray} {n idx np F L ci r : Nat} {rt' : Option FieldType} (cw : q_cw own idx ci y b n rt' np) {As : List Value} {call : Option (Nat × qS)} {f : Nat → qS → Option α} (hf : q_b2 call f = some res) (hM : ∀ x g1, call = some (x, g1) → q_MW l y b n rt' F L E (.ref (q_ad E r) :: As) g (some (.ref (q_ad E x))) g1 ∧ ∃ fs, g r = some (.inr (ci, fs))) (hR : (Nat.ble (F + 1) R.frames && Nat.ble (n + 19 + L) R.locals) = true) {lv : List (Nat × Value)} (hl : lv_has ls nL lv) (hn : As.length = np) (hst : st = As.reverse ++ .ref (q_ad E r) :: rest) (hr8 : Nat.ble (rest.map fun v => v.category).sum 8 = true) (hd : decode cc pc = .ok (.invokevirtual idx, 3)) (hcs : cells ≤ R.cells ∧ slots ≤ R.slots) (k : ∀ (x : Nat) (g1 : qS) (H1 : Heap) (locs1 : List Loc), q_J E s g1 H1 locs1 → f x g1 = some res → W p l e R s m args below meth c H1 locs1 cells slots Q (F0 m (pc + 3) ls (.ref (q_ad E x) :: rest))) : W p l e R s m args below meth c H locs cells slots Q (F0 m pc ls st) := by
  obtain ⟨x, g1, h1, h2⟩ := q_ob2 hf
  exact q_endW hj (q_runV C hj cw (hM x g1 h1).1 (hM x g1 h1).2 hR hl hn hst hr8 hd hcs) (fun H1 locs1 hj => k x g1 H1 locs1 hj h2)

theorem q_cVWV (C : q_C E p s m args meth c cc own nL rt) (hj : q_J E s g H locs) {y : MethodName} {b : ByteArray} {n idx np F L ci r : Nat} {rt' : Option FieldType} (cw : q_cw own idx ci y b n rt' np) {As : List Value} {call : Option qS} {f : qS → Option α} (hf : call.bind f = some res) (hM : ∀ g1, call = some g1 → q_MW l y b n rt' F L E (.ref (q_ad E r) :: As) g none g1 ∧ ∃ fs, g r = some (.inr (ci, fs))) (hR : (Nat.ble (F + 1) R.frames && Nat.ble (n + 19 + L) R.locals) = true) {lv : List (Nat × Value)} (hl : lv_has ls nL lv) (hn : As.length = np) (hst : st = As.reverse ++ .ref (q_ad E r) :: rest) (hr8 : Nat.ble (rest.map fun v => v.category).sum 8 = true) (hd : decode cc pc = .ok (.invokevirtual idx, 3)) (hcs : cells ≤ R.cells ∧ slots ≤ R.slots) (k : ∀ (g1 : qS) (H1 : Heap) (locs1 : List Loc), q_J E s g1 H1 locs1 → f g1 = some res → W p l e R s m args below meth c H1 locs1 cells slots Q (F0 m (pc + 3) ls rest)) : W p l e R s m args below meth c H locs cells slots Q (F0 m pc ls st) := by
  obtain ⟨g1, h1, h2⟩ := q_ob hf
  exact q_endW hj (q_runV C hj cw (hM g1 h1).1 (hM g1 h1).2 hR hl hn hst hr8 hd hcs) (fun H1 locs1 hj => k g1 H1 locs1 hj h2)

theorem q_cSRI (C : q_C E p s m args meth c cc own nL rt) (hj : q_J E s g H locs) {y : MethodName} {b : ByteArray} {n idx np F L : Nat} {rt' : Option FieldType} (cw : q_cs own idx y b n rt' np) {As : List Value} {call : Option Int32} {f : Int32 → Option α} (hf : call.bind f = some res) (hM : ∀ x, call = some x → q_MR l y b n rt' F L E As g (some (.int x))) (hR : (Nat.ble (F + 1) R.frames && Nat.ble (n + 19 + L) R.locals) = true) {lv : List (Nat × Value)} (hl : lv_has ls nL lv) (hn : As.length = np) (hst : st = As.reverse ++ rest) (hr8 : Nat.ble (rest.map fun v => v.category).sum 8 = true) (hd : decode cc pc = .ok (.invokestatic idx, 3)) (hcs : cells ≤ R.cells ∧ slots ≤ R.slots) (k : ∀ x, f x = some res → W p l e R s m args below meth c H locs cells slots Q (F0 m (pc + 3) ls (.int x :: rest))) : W p l e R s m args below meth c H locs cells slots Q (F0 m pc ls st) := by
  obtain ⟨x, h1, h2⟩ := q_ob hf
  exact q_endR (q_runS C hj cw (hM x h1) hR hl hn hst hr8 hd hcs) (k x h2)

theorem q_cSWI (C : q_C E p s m args meth c cc own nL rt) (hj : q_J E s g H locs) {y : MethodName} {b : ByteArray} {n idx np F L : Nat} {rt' : Option FieldType} (cw : q_cs own idx y b n rt' np) {As : List Value} {call : Option (Int32 × qS)} {f : Int32 → qS → Option α} (hf : q_b2 call f = some res) (hM : ∀ x g1, call = some (x, g1) → q_MW l y b n rt' F L E As g (some (.int x)) g1) (hR : (Nat.ble (F + 1) R.frames && Nat.ble (n + 19 + L) R.locals) = true) {lv : List (Nat × Value)} (hl : lv_has ls nL lv) (hn : As.length = np) (hst : st = As.reverse ++ rest) (hr8 : Nat.ble (rest.map fun v => v.category).sum 8 = true) (hd : decode cc pc = .ok (.invokestatic idx, 3)) (hcs : cells ≤ R.cells ∧ slots ≤ R.slots) (k : ∀ (x : Int32) (g1 : qS) (H1 : Heap) (locs1 : List Loc), q_J E s g1 H1 locs1 → f x g1 = some res → W p l e R s m args below meth c H1 locs1 cells slots Q (F0 m (pc + 3) ls (.int x :: rest))) : W p l e R s m args below meth c H locs cells slots Q (F0 m pc ls st) := by
  obtain ⟨x, g1, h1, h2⟩ := q_ob2 hf
  exact q_endW hj (q_runS C hj cw (hM x g1 h1) hR hl hn hst hr8 hd hcs) (fun H1 locs1 hj => k x g1 H1 locs1 hj h2)

theorem q_cSRL (C : q_C E p s m args meth c cc own nL rt) (hj : q_J E s g H locs) {y : MethodName} {b : ByteArray} {n idx np F L : Nat} {rt' : Option FieldType} (cw : q_cs own idx y b n rt' np) {As : List Value} {call : Option Int64} {f : Int64 → Option α} (hf : call.bind f = some res) (hM : ∀ x, call = some x → q_MR l y b n rt' F L E As g (some (.long x))) (hR : (Nat.ble (F + 1) R.frames && Nat.ble (n + 19 + L) R.locals) = true) {lv : List (Nat × Value)} (hl : lv_has ls nL lv) (hn : As.length = np) (hst : st = As.reverse ++ rest) (hr8 : Nat.ble (rest.map fun v => v.category).sum 8 = true) (hd : decode cc pc = .ok (.invokestatic idx, 3)) (hcs : cells ≤ R.cells ∧ slots ≤ R.slots) (k : ∀ x, f x = some res → W p l e R s m args below meth c H locs cells slots Q (F0 m (pc + 3) ls (.long x :: rest))) : W p l e R s m args below meth c H locs cells slots Q (F0 m pc ls st) := by
  obtain ⟨x, h1, h2⟩ := q_ob hf
  exact q_endR (q_runS C hj cw (hM x h1) hR hl hn hst hr8 hd hcs) (k x h2)

theorem q_cSWL (C : q_C E p s m args meth c cc own nL rt) (hj : q_J E s g H locs) {y : MethodName} {b : ByteArray} {n idx np F L : Nat} {rt' : Option FieldType} (cw : q_cs own idx y b n rt' np) {As : List Value} {call : Option (Int64 × qS)} {f : Int64 → qS → Option α} (hf : q_b2 call f = some res) (hM : ∀ x g1, call = some (x, g1) → q_MW l y b n rt' F L E As g (some (.long x)) g1) (hR : (Nat.ble (F + 1) R.frames && Nat.ble (n + 19 + L) R.locals) = true) {lv : List (Nat × Value)} (hl : lv_has ls nL lv) (hn : As.length = np) (hst : st = As.reverse ++ rest) (hr8 : Nat.ble (rest.map fun v => v.category).sum 8 = true) (hd : decode cc pc = .ok (.invokestatic idx, 3)) (hcs : cells ≤ R.cells ∧ slots ≤ R.slots) (k : ∀ (x : Int64) (g1 : qS) (H1 : Heap) (locs1 : List Loc), q_J E s g1 H1 locs1 → f x g1 = some res → W p l e R s m args below meth c H1 locs1 cells slots Q (F0 m (pc + 3) ls (.long x :: rest))) : W p l e R s m args below meth c H locs cells slots Q (F0 m pc ls st) := by
  obtain ⟨x, g1, h1, h2⟩ := q_ob2 hf
  exact q_endW hj (q_runS C hj cw (hM x g1 h1) hR hl hn hst hr8 hd hcs) (fun H1 locs1 hj => k x g1 H1 locs1 hj h2)

theorem q_cSRS (C : q_C E p s m args meth c cc own nL rt) (hj : q_J E s g H locs) {y : MethodName} {b : ByteArray} {n idx np F L : Nat} {rt' : Option FieldType} (cw : q_cs own idx y b n rt' np) {As : List Value} {call : Option Nat} {f : Nat → Option α} (hf : call.bind f = some res) (hM : ∀ x, call = some x → q_MR l y b n rt' F L E As g (some (.ref (q_sa E x)))) (hR : (Nat.ble (F + 1) R.frames && Nat.ble (n + 19 + L) R.locals) = true) {lv : List (Nat × Value)} (hl : lv_has ls nL lv) (hn : As.length = np) (hst : st = As.reverse ++ rest) (hr8 : Nat.ble (rest.map fun v => v.category).sum 8 = true) (hd : decode cc pc = .ok (.invokestatic idx, 3)) (hcs : cells ≤ R.cells ∧ slots ≤ R.slots) (k : ∀ x, f x = some res → W p l e R s m args below meth c H locs cells slots Q (F0 m (pc + 3) ls (.ref (q_sa E x) :: rest))) : W p l e R s m args below meth c H locs cells slots Q (F0 m pc ls st) := by
  obtain ⟨x, h1, h2⟩ := q_ob hf
  exact q_endR (q_runS C hj cw (hM x h1) hR hl hn hst hr8 hd hcs) (k x h2)

theorem q_cSWR (C : q_C E p s m args meth c cc own nL rt) (hj : q_J E s g H locs) {y : MethodName} {b : ByteArray} {n idx np F L : Nat} {rt' : Option FieldType} (cw : q_cs own idx y b n rt' np) {As : List Value} {call : Option (Nat × qS)} {f : Nat → qS → Option α} (hf : q_b2 call f = some res) (hM : ∀ x g1, call = some (x, g1) → q_MW l y b n rt' F L E As g (some (.ref (q_ad E x))) g1) (hR : (Nat.ble (F + 1) R.frames && Nat.ble (n + 19 + L) R.locals) = true) {lv : List (Nat × Value)} (hl : lv_has ls nL lv) (hn : As.length = np) (hst : st = As.reverse ++ rest) (hr8 : Nat.ble (rest.map fun v => v.category).sum 8 = true) (hd : decode cc pc = .ok (.invokestatic idx, 3)) (hcs : cells ≤ R.cells ∧ slots ≤ R.slots) (k : ∀ (x : Nat) (g1 : qS) (H1 : Heap) (locs1 : List Loc), q_J E s g1 H1 locs1 → f x g1 = some res → W p l e R s m args below meth c H1 locs1 cells slots Q (F0 m (pc + 3) ls (.ref (q_ad E x) :: rest))) : W p l e R s m args below meth c H locs cells slots Q (F0 m pc ls st) := by
  obtain ⟨x, g1, h1, h2⟩ := q_ob2 hf
  exact q_endW hj (q_runS C hj cw (hM x g1 h1) hR hl hn hst hr8 hd hcs) (fun H1 locs1 hj => k x g1 H1 locs1 hj h2)

theorem q_cSWV (C : q_C E p s m args meth c cc own nL rt) (hj : q_J E s g H locs) {y : MethodName} {b : ByteArray} {n idx np F L : Nat} {rt' : Option FieldType} (cw : q_cs own idx y b n rt' np) {As : List Value} {call : Option qS} {f : qS → Option α} (hf : call.bind f = some res) (hM : ∀ g1, call = some g1 → q_MW l y b n rt' F L E As g none g1) (hR : (Nat.ble (F + 1) R.frames && Nat.ble (n + 19 + L) R.locals) = true) {lv : List (Nat × Value)} (hl : lv_has ls nL lv) (hn : As.length = np) (hst : st = As.reverse ++ rest) (hr8 : Nat.ble (rest.map fun v => v.category).sum 8 = true) (hd : decode cc pc = .ok (.invokestatic idx, 3)) (hcs : cells ≤ R.cells ∧ slots ≤ R.slots) (k : ∀ (g1 : qS) (H1 : Heap) (locs1 : List Loc), q_J E s g1 H1 locs1 → f g1 = some res → W p l e R s m args below meth c H1 locs1 cells slots Q (F0 m (pc + 3) ls rest)) : W p l e R s m args below meth c H locs cells slots Q (F0 m pc ls st) := by
  obtain ⟨g1, h1, h2⟩ := q_ob hf
  exact q_endW hj (q_runS C hj cw (hM g1 h1) hR hl hn hst hr8 hd hcs) (fun H1 locs1 hj => k g1 H1 locs1 hj h2)

end QC
