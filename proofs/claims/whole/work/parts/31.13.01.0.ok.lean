/-! A large method's rows, some at a time. -/
def x_ckR (c : ByteArray) (A : List (List (Nat × Instr × Nat))) : Bool := A.flatten.all fun q => decide (decode c q.1 = .ok (q.2.1, q.2.2)) && x_lok q.2.1 q.2.2
theorem x_ckR_cat {c : ByteArray} (k : Nat) {A : List (List (Nat × Instr × Nat))} (h1 : x_ckR c (A.take k) = true) (h2 : x_ckR c (A.drop k) = true) : x_ckR c A = true := by
  have h : A.flatten = (A.take k).flatten ++ (A.drop k).flatten := by rw [← List.flatten_append, List.take_append_drop]
  unfold x_ckR at *
  rw [h, List.all_append, h1, h2]
  rfl
def x_ckH (Ts : Nat → List Jvm.Cond) (M : xM) (ix : Nat) : Bool := x_has Ts ix (.code M.1 M.2.1 M.2.2.1 M.2.2.2.1) && (plainName M.1.cls && (decide (M.1.cls ≠ "java/lang/invoke/MethodHandle") && (decide (M.1.cls ≠ "java/lang/invoke/VarHandle") && (decide (M.2.2.2.2.1 = 2 → M.1.name = "<init>") && decide (M.2.2.1 ≤ 45)))))
theorem x_ckH_ok {Ch : Nat → List Jvm.Cond} {Ts : List Jvm.Cond} (hch : x_chs Ch Ts) {M : xM} {ix : Nat} (h : x_ckH Ch M ix = true) (hR : x_ckR M.2.1 M.2.2.2.2.2.1 = true) : x_okM Ts M := by
  unfold x_ckH at h
  simp only [Bool.and_eq_true] at h
  obtain ⟨h1, h2, h3, h4, h5, h6⟩ := h
  refine ⟨x_has_ok hch h1, h2, ⟨of_decide_eq_true h3, of_decide_eq_true h4⟩, of_decide_eq_true h5, of_decide_eq_true h6, fun q hq => ?_⟩
  have := List.all_eq_true.mp hR q hq
  simp only [Bool.and_eq_true] at this
  exact ⟨of_decide_eq_true this.1, this.2⟩
theorem x_kR410_0 : x_ckR prog_14_method_1_code (x_R410.take 8) = true := by decide +kernel
theorem x_kR410_1 : x_ckR prog_14_method_1_code ((x_R410.drop 8).take 8) = true := by decide +kernel
theorem x_kR410_2 : x_ckR prog_14_method_1_code (((x_R410.drop 8).drop 8).take 8) = true := by decide +kernel
