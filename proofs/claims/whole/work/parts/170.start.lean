-- from the kit's skeleton, but for our own part
/-! THE CLAIM OUT OF ONE WALK OF THE LAW'S BODY. Your part is whole_start (and what it stands on); all else here is the same for every law, but numbers. -/
def R_law : String := "YawnRouteLaw"
def lw_P (b : Addr) (xs : List Int32) (args : Array Value) (s : State) : Prop := args = #[.ref b] ∧ s.IntsAt b xs ∧ xs.length ≤ 3072 ∧ (Jvm.Cond.and given_1 narrow_1).before args s = true
def lw_Q (_ : Array Value) (s : State) (o : Outcome) (t : State) : Prop := o = .returned (some (.int 1)) ∧ Framed s o t [] 600000 7302250
def lw_Z (below : List Frame) (a : Array Value) (s : State) : State → Prop := fun t => ∃ o, t.status = .running ∧ Ended t below o ∧ lw_Q a s o t
/-- the law's own end, with 1 on the stack, nothing written that was there before, its room as the claim has it -/
theorem lw_ret {p : Program} {l : Launch} {e : Env} {s : State} {m : MethodId} {below : List Frame} {meth : Method} {c : Code} {b : Nat} (hx : p.tables.exec = Jvm.exec) (hb : c.code = code) (hr : meth.sig.returnType = ret) (hlocks : meth.locks = false) {pc : Nat} {H : Heap} {ls : Array Slot} (hdg : decode code pc = .ok (.ireturn, 1)) : W p l e room_1 s m #[Value.ref b] below meth c H [] 600000 7302250 (lw_Z below #[Value.ref b] s) (F0 m pc ls [.int 1]) := by
  intro T hT X
  obtain ⟨fs, hret, hrun, hended, hW, hframe⟩ := X.leave (v := some (.int 1)) (hlocks := hlocks) (fun h => by rw [hr] at h; cases h)
  have hmeth' : T.vm.method? m = some meth := X.method'
  refine ⟨T.setFrames fs, ?_, .returned (some (.int 1)), hrun, hended, rfl, ⟨_, rfl⟩, hW, hframe⟩
  jvm_step X.here [X.here.top, hx, hb, hdg, hmeth', hr, ret, narrow_b1]
  (try refine ⟨rfl, ?_⟩); (try refine ⟨rfl, ?_⟩)
  first | (intro acts; rw [hret _ acts rfl rfl rfl]) | rw [hret _ _ rfl rfl rfl]
  exact Steps.refl _
/-- what holds at the law's entry: the machine, the code, the tables' words (any of lw_tbl by 'hts w (by decide +kernel)'), the script of L ints xs at the cell b, what the Statement gives of the start (any of its parts by flat_of_before) -/
def lw_At (p : Program) (s : State) (m : MethodId) (meth : Method) (c : Code) (b L : Nat) (xs : Nat → Int32) : Prop :=
  p.tables.exec = Jvm.exec ∧ c.code = code ∧ meth.sig.returnType = ret ∧ c.maxLocals = 4 ∧ s.vm.findClass R_law = some m.cls ∧ (∀ w ∈ lw_tbl, w.before #[Value.ref b] s = true) ∧ va_X b L xs s s.heap ∧ b < s.heap.size ∧ meth.locks = false ∧ (Jvm.Cond.and given_1 narrow_1).before #[Value.ref b] s = true
theorem nest_in : ∀ q ∈ nestW, Cond.methodLinkNest q.1 q.2.1 q.2.2.1 q.2.2.2 ∈ lw_tbl := List.forall_mem_cons.mpr ⟨lk33, List.forall_mem_cons.mpr ⟨lk82, List.forall_mem_cons.mpr ⟨lk145, List.forall_mem_cons.mpr ⟨lk211, List.forall_mem_cons.mpr ⟨lk213, List.forall_mem_cons.mpr ⟨lk216, List.forall_mem_cons.mpr ⟨lk240, List.forall_mem_cons.mpr ⟨lk648, List.forall_mem_cons.mpr ⟨lk696, List.forall_mem_cons.mpr ⟨lk735, List.forall_mem_cons.mpr ⟨lk815, List.forall_mem_cons.mpr ⟨lk924, List.forall_mem_cons.mpr ⟨lk949, List.forall_mem_cons.mpr ⟨lk952, List.forall_mem_cons.mpr ⟨lk955, List.forall_mem_cons.mpr ⟨lk958, List.forall_mem_cons.mpr ⟨lk964, List.forall_mem_cons.mpr ⟨lk965, List.forall_mem_cons.mpr ⟨lk966, List.forall_mem_cons.mpr ⟨lk990, List.forall_mem_cons.mpr ⟨lk1077, List.forall_mem_cons.mpr ⟨lk1102, List.forall_mem_cons.mpr ⟨lk1159, List.forall_mem_cons.mpr ⟨lk1222, List.forall_mem_cons.mpr ⟨lk1248, List.forall_mem_cons.mpr ⟨lk1252, fun _ h => absurd h List.not_mem_nil⟩⟩⟩⟩⟩⟩⟩⟩⟩⟩⟩⟩⟩⟩⟩⟩⟩⟩⟩⟩⟩⟩⟩⟩⟩⟩
-- ===== YOUR PART BEGINS =====
def P0 : PM := (fun _ _ => 0, fun _ _ => 0)
def Pinit : PM := PF_Mo_init (PF_Yr_init P0)
def sTm : Nat → Term := fun i => match i with
  | 0 => .string "YawnRoute$Tape" 80
  | 1 => .string "YawnRoute$Tape" 66
  | 2 => .string "YawnRouteModel" 89
  | _ => .string "YawnRouteModel" 127
theorem nbl {a b : Cond} {args : Array Value} {s : State} (h : (Cond.and a b).before args s = true) : a.before args s = true := by
  rw [Cond.before_and, Bool.and_eq_true] at h
  exact h.1
theorem nbr {a b : Cond} {args : Array Value} {s : State} (h : (Cond.and a b).before args s = true) : b.before args s = true := by
  rw [Cond.before_and, Bool.and_eq_true] at h
  exact h.2
section NAR
variable {args : Array Value} {s : State} (h : (Jvm.Cond.and given_1 narrow_1).before args s = true)
theorem nar_isref : Cond.before (Jvm.Cond.isRef (Jvm.Term.static "jdk/internal/util/Preconditions" "SIOOBE_FORMATTER" "Ljava/util/function/BiFunction;")) args s = true := (nbr (nbr (nbl (nbl (nbl (nbl (nbl (nbl (nbr h)))))))))
theorem nar_compact : Cond.before (Jvm.Cond.eq (Jvm.Term.static "java/lang/String" "COMPACT_STRINGS" "Z") (Jvm.Term.int (1 : Int32))) args s = true := (nbl (nbr (nbl (nbl (nbl (nbl (nbl (nbl (nbr h)))))))))
theorem nar_e0 : Cond.before (Jvm.Cond.exactly (Jvm.Term.string "YawnRoute$Tape" (80 : Nat)) "java/lang/String") args s = true := (nbr (nbr (nbr (nbr (nbr (nbr (nbl (nbl (nbl (nbr h))))))))))
theorem nar_c0 : Cond.before (Jvm.Cond.eq (Jvm.Term.field (Jvm.Term.string "YawnRoute$Tape" (80 : Nat)) "java/lang/String" "coder" "B") (Jvm.Term.int (0 : Int32))) args s = true := (nbl (nbl (nbl (nbl (nbl (nbr (nbl (nbl (nbr h)))))))))
theorem nar_a0 : Cond.before (Jvm.Cond.arrayOf (Jvm.Term.field (Jvm.Term.string "YawnRoute$Tape" (80 : Nat)) "java/lang/String" "value" "[B") Jvm.ClassFile.FieldType.byte) args s = true := (nbr (nbl (nbl (nbl (nbl (nbr (nbl (nbl (nbr h)))))))))
theorem nar_l0 : Cond.before (Jvm.Cond.eq (Jvm.Term.length (Jvm.Term.field (Jvm.Term.string "YawnRoute$Tape" (80 : Nat)) "java/lang/String" "value" "[B")) (Jvm.Term.int (98 : Int32))) args s = true := (nbl (nbr (nbl (nbl (nbl (nbr (nbl (nbl (nbr h)))))))))
theorem nar_s0_0 : Cond.before (Jvm.Cond.eq (Jvm.Term.elem (Jvm.Term.field (Jvm.Term.string "YawnRoute$Tape" (80 : Nat)) "java/lang/String" "value" "[B") (Jvm.Term.int (0 : Int32))) (Jvm.Term.int (115 : Int32))) args s = true := (nbr (nbr (nbl (nbl (nbl (nbr (nbl (nbl (nbr h)))))))))
theorem nar_s0_1 : Cond.before (Jvm.Cond.eq (Jvm.Term.elem (Jvm.Term.field (Jvm.Term.string "YawnRoute$Tape" (80 : Nat)) "java/lang/String" "value" "[B") (Jvm.Term.int (1 : Int32))) (Jvm.Term.int (116 : Int32))) args s = true := (nbl (nbl (nbr (nbl (nbl (nbr (nbl (nbl (nbr h)))))))))
theorem nar_s0_2 : Cond.before (Jvm.Cond.eq (Jvm.Term.elem (Jvm.Term.field (Jvm.Term.string "YawnRoute$Tape" (80 : Nat)) "java/lang/String" "value" "[B") (Jvm.Term.int (2 : Int32))) (Jvm.Term.int (97 : Int32))) args s = true := (nbr (nbl (nbr (nbl (nbl (nbr (nbl (nbl (nbr h)))))))))
theorem nar_s0_3 : Cond.before (Jvm.Cond.eq (Jvm.Term.elem (Jvm.Term.field (Jvm.Term.string "YawnRoute$Tape" (80 : Nat)) "java/lang/String" "value" "[B") (Jvm.Term.int (3 : Int32))) (Jvm.Term.int (116 : Int32))) args s = true := (nbl (nbr (nbr (nbl (nbl (nbr (nbl (nbl (nbr h)))))))))
theorem nar_s0_4 : Cond.before (Jvm.Cond.eq (Jvm.Term.elem (Jvm.Term.field (Jvm.Term.string "YawnRoute$Tape" (80 : Nat)) "java/lang/String" "value" "[B") (Jvm.Term.int (4 : Int32))) (Jvm.Term.int (105 : Int32))) args s = true := (nbr (nbr (nbr (nbl (nbl (nbr (nbl (nbl (nbr h)))))))))
theorem nar_s0_5 : Cond.before (Jvm.Cond.eq (Jvm.Term.elem (Jvm.Term.field (Jvm.Term.string "YawnRoute$Tape" (80 : Nat)) "java/lang/String" "value" "[B") (Jvm.Term.int (5 : Int32))) (Jvm.Term.int (111 : Int32))) args s = true := (nbl (nbl (nbl (nbr (nbl (nbr (nbl (nbl (nbr h)))))))))
theorem nar_s0_6 : Cond.before (Jvm.Cond.eq (Jvm.Term.elem (Jvm.Term.field (Jvm.Term.string "YawnRoute$Tape" (80 : Nat)) "java/lang/String" "value" "[B") (Jvm.Term.int (6 : Int32))) (Jvm.Term.int (110 : Int32))) args s = true := (nbr (nbl (nbl (nbr (nbl (nbr (nbl (nbl (nbr h)))))))))
theorem nar_s0_7 : Cond.before (Jvm.Cond.eq (Jvm.Term.elem (Jvm.Term.field (Jvm.Term.string "YawnRoute$Tape" (80 : Nat)) "java/lang/String" "value" "[B") (Jvm.Term.int (7 : Int32))) (Jvm.Term.int (32 : Int32))) args s = true := (nbl (nbr (nbl (nbr (nbl (nbr (nbl (nbl (nbr h)))))))))
theorem nar_s0_8 : Cond.before (Jvm.Cond.eq (Jvm.Term.elem (Jvm.Term.field (Jvm.Term.string "YawnRoute$Tape" (80 : Nat)) "java/lang/String" "value" "[B") (Jvm.Term.int (8 : Int32))) (Jvm.Term.int (100 : Int32))) args s = true := (nbr (nbr (nbl (nbr (nbl (nbr (nbl (nbl (nbr h)))))))))
theorem nar_s0_9 : Cond.before (Jvm.Cond.eq (Jvm.Term.elem (Jvm.Term.field (Jvm.Term.string "YawnRoute$Tape" (80 : Nat)) "java/lang/String" "value" "[B") (Jvm.Term.int (9 : Int32))) (Jvm.Term.int (117 : Int32))) args s = true := (nbl (nbl (nbr (nbr (nbl (nbr (nbl (nbl (nbr h)))))))))
theorem nar_s0_10 : Cond.before (Jvm.Cond.eq (Jvm.Term.elem (Jvm.Term.field (Jvm.Term.string "YawnRoute$Tape" (80 : Nat)) "java/lang/String" "value" "[B") (Jvm.Term.int (10 : Int32))) (Jvm.Term.int (108 : Int32))) args s = true := (nbr (nbl (nbr (nbr (nbl (nbr (nbl (nbl (nbr h)))))))))
theorem nar_s0_11 : Cond.before (Jvm.Cond.eq (Jvm.Term.elem (Jvm.Term.field (Jvm.Term.string "YawnRoute$Tape" (80 : Nat)) "java/lang/String" "value" "[B") (Jvm.Term.int (11 : Int32))) (Jvm.Term.int (108 : Int32))) args s = true := (nbl (nbr (nbr (nbr (nbl (nbr (nbl (nbl (nbr h)))))))))
theorem nar_s0_12 : Cond.before (Jvm.Cond.eq (Jvm.Term.elem (Jvm.Term.field (Jvm.Term.string "YawnRoute$Tape" (80 : Nat)) "java/lang/String" "value" "[B") (Jvm.Term.int (12 : Int32))) (Jvm.Term.int (32 : Int32))) args s = true := (nbl (nbr (nbr (nbr (nbr (nbl (nbr (nbl (nbl (nbr h))))))))))
theorem nar_s0_13 : Cond.before (Jvm.Cond.eq (Jvm.Term.elem (Jvm.Term.field (Jvm.Term.string "YawnRoute$Tape" (80 : Nat)) "java/lang/String" "value" "[B") (Jvm.Term.int (13 : Int32))) (Jvm.Term.int (107 : Int32))) args s = true := (nbr (nbr (nbr (nbr (nbr (nbl (nbr (nbl (nbl (nbr h))))))))))
theorem nar_s0_14 : Cond.before (Jvm.Cond.eq (Jvm.Term.elem (Jvm.Term.field (Jvm.Term.string "YawnRoute$Tape" (80 : Nat)) "java/lang/String" "value" "[B") (Jvm.Term.int (14 : Int32))) (Jvm.Term.int (105 : Int32))) args s = true := (nbl (nbl (nbl (nbl (nbr (nbr (nbl (nbl (nbr h)))))))))
theorem nar_s0_15 : Cond.before (Jvm.Cond.eq (Jvm.Term.elem (Jvm.Term.field (Jvm.Term.string "YawnRoute$Tape" (80 : Nat)) "java/lang/String" "value" "[B") (Jvm.Term.int (15 : Int32))) (Jvm.Term.int (110 : Int32))) args s = true := (nbr (nbl (nbl (nbl (nbr (nbr (nbl (nbl (nbr h)))))))))
theorem nar_s0_16 : Cond.before (Jvm.Cond.eq (Jvm.Term.elem (Jvm.Term.field (Jvm.Term.string "YawnRoute$Tape" (80 : Nat)) "java/lang/String" "value" "[B") (Jvm.Term.int (16 : Int32))) (Jvm.Term.int (100 : Int32))) args s = true := (nbl (nbr (nbl (nbl (nbr (nbr (nbl (nbl (nbr h)))))))))
theorem nar_s0_17 : Cond.before (Jvm.Cond.eq (Jvm.Term.elem (Jvm.Term.field (Jvm.Term.string "YawnRoute$Tape" (80 : Nat)) "java/lang/String" "value" "[B") (Jvm.Term.int (17 : Int32))) (Jvm.Term.int (32 : Int32))) args s = true := (nbr (nbr (nbl (nbl (nbr (nbr (nbl (nbl (nbr h)))))))))
theorem nar_s0_18 : Cond.before (Jvm.Cond.eq (Jvm.Term.elem (Jvm.Term.field (Jvm.Term.string "YawnRoute$Tape" (80 : Nat)) "java/lang/String" "value" "[B") (Jvm.Term.int (18 : Int32))) (Jvm.Term.int (115 : Int32))) args s = true := (nbl (nbl (nbr (nbl (nbr (nbr (nbl (nbl (nbr h)))))))))
theorem nar_s0_19 : Cond.before (Jvm.Cond.eq (Jvm.Term.elem (Jvm.Term.field (Jvm.Term.string "YawnRoute$Tape" (80 : Nat)) "java/lang/String" "value" "[B") (Jvm.Term.int (19 : Int32))) (Jvm.Term.int (105 : Int32))) args s = true := (nbr (nbl (nbr (nbl (nbr (nbr (nbl (nbl (nbr h)))))))))
theorem nar_s0_20 : Cond.before (Jvm.Cond.eq (Jvm.Term.elem (Jvm.Term.field (Jvm.Term.string "YawnRoute$Tape" (80 : Nat)) "java/lang/String" "value" "[B") (Jvm.Term.int (20 : Int32))) (Jvm.Term.int (122 : Int32))) args s = true := (nbl (nbr (nbr (nbl (nbr (nbr (nbl (nbl (nbr h)))))))))
theorem nar_s0_21 : Cond.before (Jvm.Cond.eq (Jvm.Term.elem (Jvm.Term.field (Jvm.Term.string "YawnRoute$Tape" (80 : Nat)) "java/lang/String" "value" "[B") (Jvm.Term.int (21 : Int32))) (Jvm.Term.int (101 : Int32))) args s = true := (nbl (nbr (nbr (nbr (nbl (nbr (nbr (nbl (nbl (nbr h))))))))))
theorem nar_s0_22 : Cond.before (Jvm.Cond.eq (Jvm.Term.elem (Jvm.Term.field (Jvm.Term.string "YawnRoute$Tape" (80 : Nat)) "java/lang/String" "value" "[B") (Jvm.Term.int (22 : Int32))) (Jvm.Term.int (32 : Int32))) args s = true := (nbr (nbr (nbr (nbr (nbl (nbr (nbr (nbl (nbl (nbr h))))))))))
theorem nar_s0_23 : Cond.before (Jvm.Cond.eq (Jvm.Term.elem (Jvm.Term.field (Jvm.Term.string "YawnRoute$Tape" (80 : Nat)) "java/lang/String" "value" "[B") (Jvm.Term.int (23 : Int32))) (Jvm.Term.int (102 : Int32))) args s = true := (nbl (nbl (nbl (nbr (nbr (nbr (nbl (nbl (nbr h)))))))))
theorem nar_s0_24 : Cond.before (Jvm.Cond.eq (Jvm.Term.elem (Jvm.Term.field (Jvm.Term.string "YawnRoute$Tape" (80 : Nat)) "java/lang/String" "value" "[B") (Jvm.Term.int (24 : Int32))) (Jvm.Term.int (114 : Int32))) args s = true := (nbr (nbl (nbl (nbr (nbr (nbr (nbl (nbl (nbr h)))))))))
theorem nar_s0_25 : Cond.before (Jvm.Cond.eq (Jvm.Term.elem (Jvm.Term.field (Jvm.Term.string "YawnRoute$Tape" (80 : Nat)) "java/lang/String" "value" "[B") (Jvm.Term.int (25 : Int32))) (Jvm.Term.int (111 : Int32))) args s = true := (nbl (nbr (nbl (nbr (nbr (nbr (nbl (nbl (nbr h)))))))))
theorem nar_s0_26 : Cond.before (Jvm.Cond.eq (Jvm.Term.elem (Jvm.Term.field (Jvm.Term.string "YawnRoute$Tape" (80 : Nat)) "java/lang/String" "value" "[B") (Jvm.Term.int (26 : Int32))) (Jvm.Term.int (109 : Int32))) args s = true := (nbr (nbr (nbl (nbr (nbr (nbr (nbl (nbl (nbr h)))))))))
theorem nar_s0_27 : Cond.before (Jvm.Cond.eq (Jvm.Term.elem (Jvm.Term.field (Jvm.Term.string "YawnRoute$Tape" (80 : Nat)) "java/lang/String" "value" "[B") (Jvm.Term.int (27 : Int32))) (Jvm.Term.int (32 : Int32))) args s = true := (nbl (nbl (nbr (nbr (nbr (nbr (nbl (nbl (nbr h)))))))))
theorem nar_s0_28 : Cond.before (Jvm.Cond.eq (Jvm.Term.elem (Jvm.Term.field (Jvm.Term.string "YawnRoute$Tape" (80 : Nat)) "java/lang/String" "value" "[B") (Jvm.Term.int (28 : Int32))) (Jvm.Term.int (104 : Int32))) args s = true := (nbr (nbl (nbr (nbr (nbr (nbr (nbl (nbl (nbr h)))))))))
theorem nar_s0_29 : Cond.before (Jvm.Cond.eq (Jvm.Term.elem (Jvm.Term.field (Jvm.Term.string "YawnRoute$Tape" (80 : Nat)) "java/lang/String" "value" "[B") (Jvm.Term.int (29 : Int32))) (Jvm.Term.int (111 : Int32))) args s = true := (nbl (nbr (nbr (nbr (nbr (nbr (nbl (nbl (nbr h)))))))))
theorem nar_s0_30 : Cond.before (Jvm.Cond.eq (Jvm.Term.elem (Jvm.Term.field (Jvm.Term.string "YawnRoute$Tape" (80 : Nat)) "java/lang/String" "value" "[B") (Jvm.Term.int (30 : Int32))) (Jvm.Term.int (117 : Int32))) args s = true := (nbl (nbr (nbr (nbr (nbr (nbr (nbr (nbl (nbl (nbr h))))))))))
theorem nar_s0_31 : Cond.before (Jvm.Cond.eq (Jvm.Term.elem (Jvm.Term.field (Jvm.Term.string "YawnRoute$Tape" (80 : Nat)) "java/lang/String" "value" "[B") (Jvm.Term.int (31 : Int32))) (Jvm.Term.int (114 : Int32))) args s = true := (nbr (nbr (nbr (nbr (nbr (nbr (nbr (nbl (nbl (nbr h))))))))))
theorem nar_s0_32 : Cond.before (Jvm.Cond.eq (Jvm.Term.elem (Jvm.Term.field (Jvm.Term.string "YawnRoute$Tape" (80 : Nat)) "java/lang/String" "value" "[B") (Jvm.Term.int (32 : Int32))) (Jvm.Term.int (115 : Int32))) args s = true := (nbl (nbl (nbl (nbl (nbl (nbl (nbr (nbl (nbr h)))))))))
theorem nar_s0_33 : Cond.before (Jvm.Cond.eq (Jvm.Term.elem (Jvm.Term.field (Jvm.Term.string "YawnRoute$Tape" (80 : Nat)) "java/lang/String" "value" "[B") (Jvm.Term.int (33 : Int32))) (Jvm.Term.int (32 : Int32))) args s = true := (nbr (nbl (nbl (nbl (nbl (nbl (nbr (nbl (nbr h)))))))))
theorem nar_s0_34 : Cond.before (Jvm.Cond.eq (Jvm.Term.elem (Jvm.Term.field (Jvm.Term.string "YawnRoute$Tape" (80 : Nat)) "java/lang/String" "value" "[B") (Jvm.Term.int (34 : Int32))) (Jvm.Term.int (110 : Int32))) args s = true := (nbl (nbr (nbl (nbl (nbl (nbl (nbr (nbl (nbr h)))))))))
theorem nar_s0_35 : Cond.before (Jvm.Cond.eq (Jvm.Term.elem (Jvm.Term.field (Jvm.Term.string "YawnRoute$Tape" (80 : Nat)) "java/lang/String" "value" "[B") (Jvm.Term.int (35 : Int32))) (Jvm.Term.int (101 : Int32))) args s = true := (nbr (nbr (nbl (nbl (nbl (nbl (nbr (nbl (nbr h)))))))))
theorem nar_s0_36 : Cond.before (Jvm.Cond.eq (Jvm.Term.elem (Jvm.Term.field (Jvm.Term.string "YawnRoute$Tape" (80 : Nat)) "java/lang/String" "value" "[B") (Jvm.Term.int (36 : Int32))) (Jvm.Term.int (116 : Int32))) args s = true := (nbl (nbl (nbr (nbl (nbl (nbl (nbr (nbl (nbr h)))))))))
theorem nar_s0_37 : Cond.before (Jvm.Cond.eq (Jvm.Term.elem (Jvm.Term.field (Jvm.Term.string "YawnRoute$Tape" (80 : Nat)) "java/lang/String" "value" "[B") (Jvm.Term.int (37 : Int32))) (Jvm.Term.int (32 : Int32))) args s = true := (nbr (nbl (nbr (nbl (nbl (nbl (nbr (nbl (nbr h)))))))))
theorem nar_s0_38 : Cond.before (Jvm.Cond.eq (Jvm.Term.elem (Jvm.Term.field (Jvm.Term.string "YawnRoute$Tape" (80 : Nat)) "java/lang/String" "value" "[B") (Jvm.Term.int (38 : Int32))) (Jvm.Term.int (119 : Int32))) args s = true := (nbl (nbr (nbr (nbl (nbl (nbl (nbr (nbl (nbr h)))))))))
theorem nar_s0_39 : Cond.before (Jvm.Cond.eq (Jvm.Term.elem (Jvm.Term.field (Jvm.Term.string "YawnRoute$Tape" (80 : Nat)) "java/lang/String" "value" "[B") (Jvm.Term.int (39 : Int32))) (Jvm.Term.int (97 : Int32))) args s = true := (nbr (nbr (nbr (nbl (nbl (nbl (nbr (nbl (nbr h)))))))))
theorem nar_s0_40 : Cond.before (Jvm.Cond.eq (Jvm.Term.elem (Jvm.Term.field (Jvm.Term.string "YawnRoute$Tape" (80 : Nat)) "java/lang/String" "value" "[B") (Jvm.Term.int (40 : Int32))) (Jvm.Term.int (121 : Int32))) args s = true := (nbl (nbl (nbl (nbr (nbl (nbl (nbr (nbl (nbr h)))))))))
theorem nar_s0_41 : Cond.before (Jvm.Cond.eq (Jvm.Term.elem (Jvm.Term.field (Jvm.Term.string "YawnRoute$Tape" (80 : Nat)) "java/lang/String" "value" "[B") (Jvm.Term.int (41 : Int32))) (Jvm.Term.int (32 : Int32))) args s = true := (nbr (nbl (nbl (nbr (nbl (nbl (nbr (nbl (nbr h)))))))))
theorem nar_s0_42 : Cond.before (Jvm.Cond.eq (Jvm.Term.elem (Jvm.Term.field (Jvm.Term.string "YawnRoute$Tape" (80 : Nat)) "java/lang/String" "value" "[B") (Jvm.Term.int (42 : Int32))) (Jvm.Term.int (97 : Int32))) args s = true := (nbl (nbr (nbl (nbr (nbl (nbl (nbr (nbl (nbr h)))))))))
theorem nar_s0_43 : Cond.before (Jvm.Cond.eq (Jvm.Term.elem (Jvm.Term.field (Jvm.Term.string "YawnRoute$Tape" (80 : Nat)) "java/lang/String" "value" "[B") (Jvm.Term.int (43 : Int32))) (Jvm.Term.int (116 : Int32))) args s = true := (nbr (nbr (nbl (nbr (nbl (nbl (nbr (nbl (nbr h)))))))))
theorem nar_s0_44 : Cond.before (Jvm.Cond.eq (Jvm.Term.elem (Jvm.Term.field (Jvm.Term.string "YawnRoute$Tape" (80 : Nat)) "java/lang/String" "value" "[B") (Jvm.Term.int (44 : Int32))) (Jvm.Term.int (32 : Int32))) args s = true := (nbl (nbl (nbr (nbr (nbl (nbl (nbr (nbl (nbr h)))))))))
theorem nar_s0_45 : Cond.before (Jvm.Cond.eq (Jvm.Term.elem (Jvm.Term.field (Jvm.Term.string "YawnRoute$Tape" (80 : Nat)) "java/lang/String" "value" "[B") (Jvm.Term.int (45 : Int32))) (Jvm.Term.int (116 : Int32))) args s = true := (nbr (nbl (nbr (nbr (nbl (nbl (nbr (nbl (nbr h)))))))))
theorem nar_s0_46 : Cond.before (Jvm.Cond.eq (Jvm.Term.elem (Jvm.Term.field (Jvm.Term.string "YawnRoute$Tape" (80 : Nat)) "java/lang/String" "value" "[B") (Jvm.Term.int (46 : Int32))) (Jvm.Term.int (97 : Int32))) args s = true := (nbl (nbr (nbr (nbr (nbl (nbl (nbr (nbl (nbr h)))))))))
theorem nar_s0_47 : Cond.before (Jvm.Cond.eq (Jvm.Term.elem (Jvm.Term.field (Jvm.Term.string "YawnRoute$Tape" (80 : Nat)) "java/lang/String" "value" "[B") (Jvm.Term.int (47 : Int32))) (Jvm.Term.int (107 : Int32))) args s = true := (nbl (nbr (nbr (nbr (nbr (nbl (nbl (nbr (nbl (nbr h))))))))))
theorem nar_s0_48 : Cond.before (Jvm.Cond.eq (Jvm.Term.elem (Jvm.Term.field (Jvm.Term.string "YawnRoute$Tape" (80 : Nat)) "java/lang/String" "value" "[B") (Jvm.Term.int (48 : Int32))) (Jvm.Term.int (101 : Int32))) args s = true := (nbr (nbr (nbr (nbr (nbr (nbl (nbl (nbr (nbl (nbr h))))))))))
theorem nar_s0_49 : Cond.before (Jvm.Cond.eq (Jvm.Term.elem (Jvm.Term.field (Jvm.Term.string "YawnRoute$Tape" (80 : Nat)) "java/lang/String" "value" "[B") (Jvm.Term.int (49 : Int32))) (Jvm.Term.int (115 : Int32))) args s = true := (nbl (nbl (nbl (nbl (nbr (nbl (nbr (nbl (nbr h)))))))))
theorem nar_s0_50 : Cond.before (Jvm.Cond.eq (Jvm.Term.elem (Jvm.Term.field (Jvm.Term.string "YawnRoute$Tape" (80 : Nat)) "java/lang/String" "value" "[B") (Jvm.Term.int (50 : Int32))) (Jvm.Term.int (32 : Int32))) args s = true := (nbr (nbl (nbl (nbl (nbr (nbl (nbr (nbl (nbr h)))))))))
theorem nar_s0_51 : Cond.before (Jvm.Cond.eq (Jvm.Term.elem (Jvm.Term.field (Jvm.Term.string "YawnRoute$Tape" (80 : Nat)) "java/lang/String" "value" "[B") (Jvm.Term.int (51 : Int32))) (Jvm.Term.int (112 : Int32))) args s = true := (nbl (nbr (nbl (nbl (nbr (nbl (nbr (nbl (nbr h)))))))))
theorem nar_s0_52 : Cond.before (Jvm.Cond.eq (Jvm.Term.elem (Jvm.Term.field (Jvm.Term.string "YawnRoute$Tape" (80 : Nat)) "java/lang/String" "value" "[B") (Jvm.Term.int (52 : Int32))) (Jvm.Term.int (97 : Int32))) args s = true := (nbr (nbr (nbl (nbl (nbr (nbl (nbr (nbl (nbr h)))))))))
theorem nar_s0_53 : Cond.before (Jvm.Cond.eq (Jvm.Term.elem (Jvm.Term.field (Jvm.Term.string "YawnRoute$Tape" (80 : Nat)) "java/lang/String" "value" "[B") (Jvm.Term.int (53 : Int32))) (Jvm.Term.int (115 : Int32))) args s = true := (nbl (nbl (nbr (nbl (nbr (nbl (nbr (nbl (nbr h)))))))))
theorem nar_s0_54 : Cond.before (Jvm.Cond.eq (Jvm.Term.elem (Jvm.Term.field (Jvm.Term.string "YawnRoute$Tape" (80 : Nat)) "java/lang/String" "value" "[B") (Jvm.Term.int (54 : Int32))) (Jvm.Term.int (115 : Int32))) args s = true := (nbr (nbl (nbr (nbl (nbr (nbl (nbr (nbl (nbr h)))))))))
theorem nar_s0_55 : Cond.before (Jvm.Cond.eq (Jvm.Term.elem (Jvm.Term.field (Jvm.Term.string "YawnRoute$Tape" (80 : Nat)) "java/lang/String" "value" "[B") (Jvm.Term.int (55 : Int32))) (Jvm.Term.int (101 : Int32))) args s = true := (nbl (nbr (nbr (nbl (nbr (nbl (nbr (nbl (nbr h)))))))))
theorem nar_s0_56 : Cond.before (Jvm.Cond.eq (Jvm.Term.elem (Jvm.Term.field (Jvm.Term.string "YawnRoute$Tape" (80 : Nat)) "java/lang/String" "value" "[B") (Jvm.Term.int (56 : Int32))) (Jvm.Term.int (115 : Int32))) args s = true := (nbr (nbr (nbr (nbl (nbr (nbl (nbr (nbl (nbr h)))))))))
theorem nar_s0_57 : Cond.before (Jvm.Cond.eq (Jvm.Term.elem (Jvm.Term.field (Jvm.Term.string "YawnRoute$Tape" (80 : Nat)) "java/lang/String" "value" "[B") (Jvm.Term.int (57 : Int32))) (Jvm.Term.int (32 : Int32))) args s = true := (nbl (nbl (nbl (nbr (nbr (nbl (nbr (nbl (nbr h)))))))))
theorem nar_s0_58 : Cond.before (Jvm.Cond.eq (Jvm.Term.elem (Jvm.Term.field (Jvm.Term.string "YawnRoute$Tape" (80 : Nat)) "java/lang/String" "value" "[B") (Jvm.Term.int (58 : Int32))) (Jvm.Term.int (97 : Int32))) args s = true := (nbr (nbl (nbl (nbr (nbr (nbl (nbr (nbl (nbr h)))))))))
theorem nar_s0_59 : Cond.before (Jvm.Cond.eq (Jvm.Term.elem (Jvm.Term.field (Jvm.Term.string "YawnRoute$Tape" (80 : Nat)) "java/lang/String" "value" "[B") (Jvm.Term.int (59 : Int32))) (Jvm.Term.int (115 : Int32))) args s = true := (nbl (nbr (nbl (nbr (nbr (nbl (nbr (nbl (nbr h)))))))))
theorem nar_s0_60 : Cond.before (Jvm.Cond.eq (Jvm.Term.elem (Jvm.Term.field (Jvm.Term.string "YawnRoute$Tape" (80 : Nat)) "java/lang/String" "value" "[B") (Jvm.Term.int (60 : Int32))) (Jvm.Term.int (108 : Int32))) args s = true := (nbr (nbr (nbl (nbr (nbr (nbl (nbr (nbl (nbr h)))))))))
theorem nar_s0_61 : Cond.before (Jvm.Cond.eq (Jvm.Term.elem (Jvm.Term.field (Jvm.Term.string "YawnRoute$Tape" (80 : Nat)) "java/lang/String" "value" "[B") (Jvm.Term.int (61 : Int32))) (Jvm.Term.int (101 : Int32))) args s = true := (nbl (nbl (nbr (nbr (nbr (nbl (nbr (nbl (nbr h)))))))))
theorem nar_s0_62 : Cond.before (Jvm.Cond.eq (Jvm.Term.elem (Jvm.Term.field (Jvm.Term.string "YawnRoute$Tape" (80 : Nat)) "java/lang/String" "value" "[B") (Jvm.Term.int (62 : Int32))) (Jvm.Term.int (101 : Int32))) args s = true := (nbr (nbl (nbr (nbr (nbr (nbl (nbr (nbl (nbr h)))))))))
theorem nar_s0_63 : Cond.before (Jvm.Cond.eq (Jvm.Term.elem (Jvm.Term.field (Jvm.Term.string "YawnRoute$Tape" (80 : Nat)) "java/lang/String" "value" "[B") (Jvm.Term.int (63 : Int32))) (Jvm.Term.int (112 : Int32))) args s = true := (nbl (nbr (nbr (nbr (nbr (nbl (nbr (nbl (nbr h)))))))))
theorem nar_s0_64 : Cond.before (Jvm.Cond.eq (Jvm.Term.elem (Jvm.Term.field (Jvm.Term.string "YawnRoute$Tape" (80 : Nat)) "java/lang/String" "value" "[B") (Jvm.Term.int (64 : Int32))) (Jvm.Term.int (32 : Int32))) args s = true := (nbl (nbr (nbr (nbr (nbr (nbr (nbl (nbr (nbl (nbr h))))))))))
theorem nar_s0_65 : Cond.before (Jvm.Cond.eq (Jvm.Term.elem (Jvm.Term.field (Jvm.Term.string "YawnRoute$Tape" (80 : Nat)) "java/lang/String" "value" "[B") (Jvm.Term.int (65 : Int32))) (Jvm.Term.int (111 : Int32))) args s = true := (nbr (nbr (nbr (nbr (nbr (nbr (nbl (nbr (nbl (nbr h))))))))))
theorem nar_s0_66 : Cond.before (Jvm.Cond.eq (Jvm.Term.elem (Jvm.Term.field (Jvm.Term.string "YawnRoute$Tape" (80 : Nat)) "java/lang/String" "value" "[B") (Jvm.Term.int (66 : Int32))) (Jvm.Term.int (100 : Int32))) args s = true := (nbl (nbl (nbl (nbl (nbl (nbr (nbr (nbl (nbr h)))))))))
theorem nar_s0_67 : Cond.before (Jvm.Cond.eq (Jvm.Term.elem (Jvm.Term.field (Jvm.Term.string "YawnRoute$Tape" (80 : Nat)) "java/lang/String" "value" "[B") (Jvm.Term.int (67 : Int32))) (Jvm.Term.int (100 : Int32))) args s = true := (nbr (nbl (nbl (nbl (nbl (nbr (nbr (nbl (nbr h)))))))))
theorem nar_s0_68 : Cond.before (Jvm.Cond.eq (Jvm.Term.elem (Jvm.Term.field (Jvm.Term.string "YawnRoute$Tape" (80 : Nat)) "java/lang/String" "value" "[B") (Jvm.Term.int (68 : Int32))) (Jvm.Term.int (115 : Int32))) args s = true := (nbl (nbr (nbl (nbl (nbl (nbr (nbr (nbl (nbr h)))))))))
theorem nar_s0_69 : Cond.before (Jvm.Cond.eq (Jvm.Term.elem (Jvm.Term.field (Jvm.Term.string "YawnRoute$Tape" (80 : Nat)) "java/lang/String" "value" "[B") (Jvm.Term.int (69 : Int32))) (Jvm.Term.int (32 : Int32))) args s = true := (nbr (nbr (nbl (nbl (nbl (nbr (nbr (nbl (nbr h)))))))))
theorem nar_s0_70 : Cond.before (Jvm.Cond.eq (Jvm.Term.elem (Jvm.Term.field (Jvm.Term.string "YawnRoute$Tape" (80 : Nat)) "java/lang/String" "value" "[B") (Jvm.Term.int (70 : Int32))) (Jvm.Term.int (105 : Int32))) args s = true := (nbl (nbl (nbr (nbl (nbl (nbr (nbr (nbl (nbr h)))))))))
theorem nar_s0_71 : Cond.before (Jvm.Cond.eq (Jvm.Term.elem (Jvm.Term.field (Jvm.Term.string "YawnRoute$Tape" (80 : Nat)) "java/lang/String" "value" "[B") (Jvm.Term.int (71 : Int32))) (Jvm.Term.int (102 : Int32))) args s = true := (nbr (nbl (nbr (nbl (nbl (nbr (nbr (nbl (nbr h)))))))))
theorem nar_s0_72 : Cond.before (Jvm.Cond.eq (Jvm.Term.elem (Jvm.Term.field (Jvm.Term.string "YawnRoute$Tape" (80 : Nat)) "java/lang/String" "value" "[B") (Jvm.Term.int (72 : Int32))) (Jvm.Term.int (32 : Int32))) args s = true := (nbl (nbr (nbr (nbl (nbl (nbr (nbr (nbl (nbr h)))))))))
theorem nar_s0_73 : Cond.before (Jvm.Cond.eq (Jvm.Term.elem (Jvm.Term.field (Jvm.Term.string "YawnRoute$Tape" (80 : Nat)) "java/lang/String" "value" "[B") (Jvm.Term.int (73 : Int32))) (Jvm.Term.int (116 : Int32))) args s = true := (nbr (nbr (nbr (nbl (nbl (nbr (nbr (nbl (nbr h)))))))))
theorem nar_s0_74 : Cond.before (Jvm.Cond.eq (Jvm.Term.elem (Jvm.Term.field (Jvm.Term.string "YawnRoute$Tape" (80 : Nat)) "java/lang/String" "value" "[B") (Jvm.Term.int (74 : Int32))) (Jvm.Term.int (104 : Int32))) args s = true := (nbl (nbl (nbl (nbr (nbl (nbr (nbr (nbl (nbr h)))))))))
theorem nar_s0_75 : Cond.before (Jvm.Cond.eq (Jvm.Term.elem (Jvm.Term.field (Jvm.Term.string "YawnRoute$Tape" (80 : Nat)) "java/lang/String" "value" "[B") (Jvm.Term.int (75 : Int32))) (Jvm.Term.int (101 : Int32))) args s = true := (nbr (nbl (nbl (nbr (nbl (nbr (nbr (nbl (nbr h)))))))))
theorem nar_s0_76 : Cond.before (Jvm.Cond.eq (Jvm.Term.elem (Jvm.Term.field (Jvm.Term.string "YawnRoute$Tape" (80 : Nat)) "java/lang/String" "value" "[B") (Jvm.Term.int (76 : Int32))) (Jvm.Term.int (110 : Int32))) args s = true := (nbl (nbr (nbl (nbr (nbl (nbr (nbr (nbl (nbr h)))))))))
theorem nar_s0_77 : Cond.before (Jvm.Cond.eq (Jvm.Term.elem (Jvm.Term.field (Jvm.Term.string "YawnRoute$Tape" (80 : Nat)) "java/lang/String" "value" "[B") (Jvm.Term.int (77 : Int32))) (Jvm.Term.int (32 : Int32))) args s = true := (nbr (nbr (nbl (nbr (nbl (nbr (nbr (nbl (nbr h)))))))))
theorem nar_s0_78 : Cond.before (Jvm.Cond.eq (Jvm.Term.elem (Jvm.Term.field (Jvm.Term.string "YawnRoute$Tape" (80 : Nat)) "java/lang/String" "value" "[B") (Jvm.Term.int (78 : Int32))) (Jvm.Term.int (101 : Int32))) args s = true := (nbl (nbl (nbr (nbr (nbl (nbr (nbr (nbl (nbr h)))))))))
theorem nar_s0_79 : Cond.before (Jvm.Cond.eq (Jvm.Term.elem (Jvm.Term.field (Jvm.Term.string "YawnRoute$Tape" (80 : Nat)) "java/lang/String" "value" "[B") (Jvm.Term.int (79 : Int32))) (Jvm.Term.int (108 : Int32))) args s = true := (nbr (nbl (nbr (nbr (nbl (nbr (nbr (nbl (nbr h)))))))))
theorem nar_s0_80 : Cond.before (Jvm.Cond.eq (Jvm.Term.elem (Jvm.Term.field (Jvm.Term.string "YawnRoute$Tape" (80 : Nat)) "java/lang/String" "value" "[B") (Jvm.Term.int (80 : Int32))) (Jvm.Term.int (115 : Int32))) args s = true := (nbl (nbr (nbr (nbr (nbl (nbr (nbr (nbl (nbr h)))))))))
theorem nar_s0_81 : Cond.before (Jvm.Cond.eq (Jvm.Term.elem (Jvm.Term.field (Jvm.Term.string "YawnRoute$Tape" (80 : Nat)) "java/lang/String" "value" "[B") (Jvm.Term.int (81 : Int32))) (Jvm.Term.int (101 : Int32))) args s = true := (nbl (nbr (nbr (nbr (nbr (nbl (nbr (nbr (nbl (nbr h))))))))))
theorem nar_s0_82 : Cond.before (Jvm.Cond.eq (Jvm.Term.elem (Jvm.Term.field (Jvm.Term.string "YawnRoute$Tape" (80 : Nat)) "java/lang/String" "value" "[B") (Jvm.Term.int (82 : Int32))) (Jvm.Term.int (32 : Int32))) args s = true := (nbr (nbr (nbr (nbr (nbr (nbl (nbr (nbr (nbl (nbr h))))))))))
theorem nar_s0_83 : Cond.before (Jvm.Cond.eq (Jvm.Term.elem (Jvm.Term.field (Jvm.Term.string "YawnRoute$Tape" (80 : Nat)) "java/lang/String" "value" "[B") (Jvm.Term.int (83 : Int32))) (Jvm.Term.int (101 : Int32))) args s = true := (nbl (nbl (nbl (nbl (nbr (nbr (nbr (nbl (nbr h)))))))))
theorem nar_s0_84 : Cond.before (Jvm.Cond.eq (Jvm.Term.elem (Jvm.Term.field (Jvm.Term.string "YawnRoute$Tape" (80 : Nat)) "java/lang/String" "value" "[B") (Jvm.Term.int (84 : Int32))) (Jvm.Term.int (110 : Int32))) args s = true := (nbr (nbl (nbl (nbl (nbr (nbr (nbr (nbl (nbr h)))))))))
theorem nar_s0_85 : Cond.before (Jvm.Cond.eq (Jvm.Term.elem (Jvm.Term.field (Jvm.Term.string "YawnRoute$Tape" (80 : Nat)) "java/lang/String" "value" "[B") (Jvm.Term.int (85 : Int32))) (Jvm.Term.int (100 : Int32))) args s = true := (nbl (nbr (nbl (nbl (nbr (nbr (nbr (nbl (nbr h)))))))))
theorem nar_s0_86 : Cond.before (Jvm.Cond.eq (Jvm.Term.elem (Jvm.Term.field (Jvm.Term.string "YawnRoute$Tape" (80 : Nat)) "java/lang/String" "value" "[B") (Jvm.Term.int (86 : Int32))) (Jvm.Term.int (32 : Int32))) args s = true := (nbr (nbr (nbl (nbl (nbr (nbr (nbr (nbl (nbr h)))))))))
theorem nar_s0_87 : Cond.before (Jvm.Cond.eq (Jvm.Term.elem (Jvm.Term.field (Jvm.Term.string "YawnRoute$Tape" (80 : Nat)) "java/lang/String" "value" "[B") (Jvm.Term.int (87 : Int32))) (Jvm.Term.int (111 : Int32))) args s = true := (nbl (nbl (nbr (nbl (nbr (nbr (nbr (nbl (nbr h)))))))))
theorem nar_s0_88 : Cond.before (Jvm.Cond.eq (Jvm.Term.elem (Jvm.Term.field (Jvm.Term.string "YawnRoute$Tape" (80 : Nat)) "java/lang/String" "value" "[B") (Jvm.Term.int (88 : Int32))) (Jvm.Term.int (114 : Int32))) args s = true := (nbr (nbl (nbr (nbl (nbr (nbr (nbr (nbl (nbr h)))))))))
theorem nar_s0_89 : Cond.before (Jvm.Cond.eq (Jvm.Term.elem (Jvm.Term.field (Jvm.Term.string "YawnRoute$Tape" (80 : Nat)) "java/lang/String" "value" "[B") (Jvm.Term.int (89 : Int32))) (Jvm.Term.int (32 : Int32))) args s = true := (nbl (nbr (nbr (nbl (nbr (nbr (nbr (nbl (nbr h)))))))))
theorem nar_s0_90 : Cond.before (Jvm.Cond.eq (Jvm.Term.elem (Jvm.Term.field (Jvm.Term.string "YawnRoute$Tape" (80 : Nat)) "java/lang/String" "value" "[B") (Jvm.Term.int (90 : Int32))) (Jvm.Term.int (97 : Int32))) args s = true := (nbl (nbr (nbr (nbr (nbl (nbr (nbr (nbr (nbl (nbr h))))))))))
theorem nar_s0_91 : Cond.before (Jvm.Cond.eq (Jvm.Term.elem (Jvm.Term.field (Jvm.Term.string "YawnRoute$Tape" (80 : Nat)) "java/lang/String" "value" "[B") (Jvm.Term.int (91 : Int32))) (Jvm.Term.int (110 : Int32))) args s = true := (nbr (nbr (nbr (nbr (nbl (nbr (nbr (nbr (nbl (nbr h))))))))))
theorem nar_s0_92 : Cond.before (Jvm.Cond.eq (Jvm.Term.elem (Jvm.Term.field (Jvm.Term.string "YawnRoute$Tape" (80 : Nat)) "java/lang/String" "value" "[B") (Jvm.Term.int (92 : Int32))) (Jvm.Term.int (100 : Int32))) args s = true := (nbl (nbl (nbl (nbr (nbr (nbr (nbr (nbl (nbr h)))))))))
theorem nar_s0_93 : Cond.before (Jvm.Cond.eq (Jvm.Term.elem (Jvm.Term.field (Jvm.Term.string "YawnRoute$Tape" (80 : Nat)) "java/lang/String" "value" "[B") (Jvm.Term.int (93 : Int32))) (Jvm.Term.int (32 : Int32))) args s = true := (nbr (nbl (nbl (nbr (nbr (nbr (nbr (nbl (nbr h)))))))))
theorem nar_s0_94 : Cond.before (Jvm.Cond.eq (Jvm.Term.elem (Jvm.Term.field (Jvm.Term.string "YawnRoute$Tape" (80 : Nat)) "java/lang/String" "value" "[B") (Jvm.Term.int (94 : Int32))) (Jvm.Term.int (110 : Int32))) args s = true := (nbl (nbr (nbl (nbr (nbr (nbr (nbr (nbl (nbr h)))))))))
theorem nar_s0_95 : Cond.before (Jvm.Cond.eq (Jvm.Term.elem (Jvm.Term.field (Jvm.Term.string "YawnRoute$Tape" (80 : Nat)) "java/lang/String" "value" "[B") (Jvm.Term.int (95 : Int32))) (Jvm.Term.int (111 : Int32))) args s = true := (nbr (nbr (nbl (nbr (nbr (nbr (nbr (nbl (nbr h)))))))))
theorem nar_s0_96 : Cond.before (Jvm.Cond.eq (Jvm.Term.elem (Jvm.Term.field (Jvm.Term.string "YawnRoute$Tape" (80 : Nat)) "java/lang/String" "value" "[B") (Jvm.Term.int (96 : Int32))) (Jvm.Term.int (116 : Int32))) args s = true := (nbl (nbl (nbr (nbr (nbr (nbr (nbr (nbl (nbr h)))))))))
theorem nar_s0_97 : Cond.before (Jvm.Cond.eq (Jvm.Term.elem (Jvm.Term.field (Jvm.Term.string "YawnRoute$Tape" (80 : Nat)) "java/lang/String" "value" "[B") (Jvm.Term.int (97 : Int32))) (Jvm.Term.int (32 : Int32))) args s = true := (nbr (nbl (nbr (nbr (nbr (nbr (nbr (nbl (nbr h)))))))))
theorem nar_s0 : ∀ j, j < 98 → (Cond.eq (.elem (.field (sTm 0) "java/lang/String" "value" "[B") (.int (Int32.ofNat j))) (.int ((sByt.getD 0 []).getD j 0))).before args s = true := lt_s (lt_s (lt_s (lt_s (lt_s (lt_s (lt_s (lt_s (lt_s (lt_s (lt_s (lt_s (lt_s (lt_s (lt_s (lt_s (lt_s (lt_s (lt_s (lt_s (lt_s (lt_s (lt_s (lt_s (lt_s (lt_s (lt_s (lt_s (lt_s (lt_s (lt_s (lt_s (lt_s (lt_s (lt_s (lt_s (lt_s (lt_s (lt_s (lt_s (lt_s (lt_s (lt_s (lt_s (lt_s (lt_s (lt_s (lt_s (lt_s (lt_s (lt_s (lt_s (lt_s (lt_s (lt_s (lt_s (lt_s (lt_s (lt_s (lt_s (lt_s (lt_s (lt_s (lt_s (lt_s (lt_s (lt_s (lt_s (lt_s (lt_s (lt_s (lt_s (lt_s (lt_s (lt_s (lt_s (lt_s (lt_s (lt_s (lt_s (lt_s (lt_s (lt_s (lt_s (lt_s (lt_s (lt_s (lt_s (lt_s (lt_s (lt_s (lt_s (lt_s (lt_s (lt_s (lt_s (lt_s (lt_s (lt_0) (nar_s0_0 h)) (nar_s0_1 h)) (nar_s0_2 h)) (nar_s0_3 h)) (nar_s0_4 h)) (nar_s0_5 h)) (nar_s0_6 h)) (nar_s0_7 h)) (nar_s0_8 h)) (nar_s0_9 h)) (nar_s0_10 h)) (nar_s0_11 h)) (nar_s0_12 h)) (nar_s0_13 h)) (nar_s0_14 h)) (nar_s0_15 h)) (nar_s0_16 h)) (nar_s0_17 h)) (nar_s0_18 h)) (nar_s0_19 h)) (nar_s0_20 h)) (nar_s0_21 h)) (nar_s0_22 h)) (nar_s0_23 h)) (nar_s0_24 h)) (nar_s0_25 h)) (nar_s0_26 h)) (nar_s0_27 h)) (nar_s0_28 h)) (nar_s0_29 h)) (nar_s0_30 h)) (nar_s0_31 h)) (nar_s0_32 h)) (nar_s0_33 h)) (nar_s0_34 h)) (nar_s0_35 h)) (nar_s0_36 h)) (nar_s0_37 h)) (nar_s0_38 h)) (nar_s0_39 h)) (nar_s0_40 h)) (nar_s0_41 h)) (nar_s0_42 h)) (nar_s0_43 h)) (nar_s0_44 h)) (nar_s0_45 h)) (nar_s0_46 h)) (nar_s0_47 h)) (nar_s0_48 h)) (nar_s0_49 h)) (nar_s0_50 h)) (nar_s0_51 h)) (nar_s0_52 h)) (nar_s0_53 h)) (nar_s0_54 h)) (nar_s0_55 h)) (nar_s0_56 h)) (nar_s0_57 h)) (nar_s0_58 h)) (nar_s0_59 h)) (nar_s0_60 h)) (nar_s0_61 h)) (nar_s0_62 h)) (nar_s0_63 h)) (nar_s0_64 h)) (nar_s0_65 h)) (nar_s0_66 h)) (nar_s0_67 h)) (nar_s0_68 h)) (nar_s0_69 h)) (nar_s0_70 h)) (nar_s0_71 h)) (nar_s0_72 h)) (nar_s0_73 h)) (nar_s0_74 h)) (nar_s0_75 h)) (nar_s0_76 h)) (nar_s0_77 h)) (nar_s0_78 h)) (nar_s0_79 h)) (nar_s0_80 h)) (nar_s0_81 h)) (nar_s0_82 h)) (nar_s0_83 h)) (nar_s0_84 h)) (nar_s0_85 h)) (nar_s0_86 h)) (nar_s0_87 h)) (nar_s0_88 h)) (nar_s0_89 h)) (nar_s0_90 h)) (nar_s0_91 h)) (nar_s0_92 h)) (nar_s0_93 h)) (nar_s0_94 h)) (nar_s0_95 h)) (nar_s0_96 h)) (nar_s0_97 h)
theorem nar_e1 : Cond.before (Jvm.Cond.exactly (Jvm.Term.string "YawnRoute$Tape" (66 : Nat)) "java/lang/String") args s = true := (nbl (nbr (nbr (nbr (nbr (nbr (nbr (nbl (nbr h)))))))))
theorem nar_c1 : Cond.before (Jvm.Cond.eq (Jvm.Term.field (Jvm.Term.string "YawnRoute$Tape" (66 : Nat)) "java/lang/String" "coder" "B") (Jvm.Term.int (0 : Int32))) args s = true := (nbl (nbr (nbr (nbr (nbr (nbr (nbr (nbr (nbl (nbr h))))))))))
theorem nar_a1 : Cond.before (Jvm.Cond.arrayOf (Jvm.Term.field (Jvm.Term.string "YawnRoute$Tape" (66 : Nat)) "java/lang/String" "value" "[B") Jvm.ClassFile.FieldType.byte) args s = true := (nbr (nbr (nbr (nbr (nbr (nbr (nbr (nbr (nbl (nbr h))))))))))
theorem nar_l1 : Cond.before (Jvm.Cond.eq (Jvm.Term.length (Jvm.Term.field (Jvm.Term.string "YawnRoute$Tape" (66 : Nat)) "java/lang/String" "value" "[B")) (Jvm.Term.int (12 : Int32))) args s = true := (nbl (nbl (nbl (nbl (nbl (nbl (nbl (nbr (nbr h)))))))))
theorem nar_s1_0 : Cond.before (Jvm.Cond.eq (Jvm.Term.elem (Jvm.Term.field (Jvm.Term.string "YawnRoute$Tape" (66 : Nat)) "java/lang/String" "value" "[B") (Jvm.Term.int (0 : Int32))) (Jvm.Term.int (59 : Int32))) args s = true := (nbr (nbl (nbl (nbl (nbl (nbl (nbl (nbr (nbr h)))))))))
theorem nar_s1_1 : Cond.before (Jvm.Cond.eq (Jvm.Term.elem (Jvm.Term.field (Jvm.Term.string "YawnRoute$Tape" (66 : Nat)) "java/lang/String" "value" "[B") (Jvm.Term.int (1 : Int32))) (Jvm.Term.int (58 : Int32))) args s = true := (nbl (nbr (nbl (nbl (nbl (nbl (nbl (nbr (nbr h)))))))))
theorem nar_s1_2 : Cond.before (Jvm.Cond.eq (Jvm.Term.elem (Jvm.Term.field (Jvm.Term.string "YawnRoute$Tape" (66 : Nat)) "java/lang/String" "value" "[B") (Jvm.Term.int (2 : Int32))) (Jvm.Term.int (43 : Int32))) args s = true := (nbr (nbr (nbl (nbl (nbl (nbl (nbl (nbr (nbr h)))))))))
theorem nar_s1_3 : Cond.before (Jvm.Cond.eq (Jvm.Term.elem (Jvm.Term.field (Jvm.Term.string "YawnRoute$Tape" (66 : Nat)) "java/lang/String" "value" "[B") (Jvm.Term.int (3 : Int32))) (Jvm.Term.int (45 : Int32))) args s = true := (nbl (nbl (nbr (nbl (nbl (nbl (nbl (nbr (nbr h)))))))))
theorem nar_s1_4 : Cond.before (Jvm.Cond.eq (Jvm.Term.elem (Jvm.Term.field (Jvm.Term.string "YawnRoute$Tape" (66 : Nat)) "java/lang/String" "value" "[B") (Jvm.Term.int (4 : Int32))) (Jvm.Term.int (42 : Int32))) args s = true := (nbr (nbl (nbr (nbl (nbl (nbl (nbl (nbr (nbr h)))))))))
theorem nar_s1_5 : Cond.before (Jvm.Cond.eq (Jvm.Term.elem (Jvm.Term.field (Jvm.Term.string "YawnRoute$Tape" (66 : Nat)) "java/lang/String" "value" "[B") (Jvm.Term.int (5 : Int32))) (Jvm.Term.int (40 : Int32))) args s = true := (nbl (nbr (nbr (nbl (nbl (nbl (nbl (nbr (nbr h)))))))))
theorem nar_s1_6 : Cond.before (Jvm.Cond.eq (Jvm.Term.elem (Jvm.Term.field (Jvm.Term.string "YawnRoute$Tape" (66 : Nat)) "java/lang/String" "value" "[B") (Jvm.Term.int (6 : Int32))) (Jvm.Term.int (41 : Int32))) args s = true := (nbr (nbr (nbr (nbl (nbl (nbl (nbl (nbr (nbr h)))))))))
theorem nar_s1_7 : Cond.before (Jvm.Cond.eq (Jvm.Term.elem (Jvm.Term.field (Jvm.Term.string "YawnRoute$Tape" (66 : Nat)) "java/lang/String" "value" "[B") (Jvm.Term.int (7 : Int32))) (Jvm.Term.int (91 : Int32))) args s = true := (nbl (nbl (nbl (nbr (nbl (nbl (nbl (nbr (nbr h)))))))))
theorem nar_s1_8 : Cond.before (Jvm.Cond.eq (Jvm.Term.elem (Jvm.Term.field (Jvm.Term.string "YawnRoute$Tape" (66 : Nat)) "java/lang/String" "value" "[B") (Jvm.Term.int (8 : Int32))) (Jvm.Term.int (93 : Int32))) args s = true := (nbr (nbl (nbl (nbr (nbl (nbl (nbl (nbr (nbr h)))))))))
theorem nar_s1_9 : Cond.before (Jvm.Cond.eq (Jvm.Term.elem (Jvm.Term.field (Jvm.Term.string "YawnRoute$Tape" (66 : Nat)) "java/lang/String" "value" "[B") (Jvm.Term.int (9 : Int32))) (Jvm.Term.int (61 : Int32))) args s = true := (nbl (nbr (nbl (nbr (nbl (nbl (nbl (nbr (nbr h)))))))))
theorem nar_s1_10 : Cond.before (Jvm.Cond.eq (Jvm.Term.elem (Jvm.Term.field (Jvm.Term.string "YawnRoute$Tape" (66 : Nat)) "java/lang/String" "value" "[B") (Jvm.Term.int (10 : Int32))) (Jvm.Term.int (60 : Int32))) args s = true := (nbr (nbr (nbl (nbr (nbl (nbl (nbl (nbr (nbr h)))))))))
theorem nar_s1_11 : Cond.before (Jvm.Cond.eq (Jvm.Term.elem (Jvm.Term.field (Jvm.Term.string "YawnRoute$Tape" (66 : Nat)) "java/lang/String" "value" "[B") (Jvm.Term.int (11 : Int32))) (Jvm.Term.int (62 : Int32))) args s = true := (nbl (nbl (nbr (nbr (nbl (nbl (nbl (nbr (nbr h)))))))))
theorem nar_s1 : ∀ j, j < 12 → (Cond.eq (.elem (.field (sTm 1) "java/lang/String" "value" "[B") (.int (Int32.ofNat j))) (.int ((sByt.getD 1 []).getD j 0))).before args s = true := lt_s (lt_s (lt_s (lt_s (lt_s (lt_s (lt_s (lt_s (lt_s (lt_s (lt_s (lt_s (lt_0) (nar_s1_0 h)) (nar_s1_1 h)) (nar_s1_2 h)) (nar_s1_3 h)) (nar_s1_4 h)) (nar_s1_5 h)) (nar_s1_6 h)) (nar_s1_7 h)) (nar_s1_8 h)) (nar_s1_9 h)) (nar_s1_10 h)) (nar_s1_11 h)
theorem nar_e2 : Cond.before (Jvm.Cond.exactly (Jvm.Term.string "YawnRouteModel" (89 : Nat)) "java/lang/String") args s = true := (nbl (nbr (nbr (nbr (nbl (nbl (nbl (nbr (nbr h)))))))))
theorem nar_c2 : Cond.before (Jvm.Cond.eq (Jvm.Term.field (Jvm.Term.string "YawnRouteModel" (89 : Nat)) "java/lang/String" "coder" "B") (Jvm.Term.int (0 : Int32))) args s = true := (nbl (nbr (nbr (nbr (nbr (nbl (nbl (nbl (nbr (nbr h))))))))))
theorem nar_a2 : Cond.before (Jvm.Cond.arrayOf (Jvm.Term.field (Jvm.Term.string "YawnRouteModel" (89 : Nat)) "java/lang/String" "value" "[B") Jvm.ClassFile.FieldType.byte) args s = true := (nbr (nbr (nbr (nbr (nbr (nbl (nbl (nbl (nbr (nbr h))))))))))
theorem nar_l2 : Cond.before (Jvm.Cond.eq (Jvm.Term.length (Jvm.Term.field (Jvm.Term.string "YawnRouteModel" (89 : Nat)) "java/lang/String" "value" "[B")) (Jvm.Term.int (99 : Int32))) args s = true := (nbl (nbl (nbl (nbl (nbr (nbl (nbl (nbr (nbr h)))))))))
theorem nar_s2_0 : Cond.before (Jvm.Cond.eq (Jvm.Term.elem (Jvm.Term.field (Jvm.Term.string "YawnRouteModel" (89 : Nat)) "java/lang/String" "value" "[B") (Jvm.Term.int (0 : Int32))) (Jvm.Term.int (32 : Int32))) args s = true := (nbr (nbl (nbl (nbl (nbr (nbl (nbl (nbr (nbr h)))))))))
theorem nar_s2_1 : Cond.before (Jvm.Cond.eq (Jvm.Term.elem (Jvm.Term.field (Jvm.Term.string "YawnRouteModel" (89 : Nat)) "java/lang/String" "value" "[B") (Jvm.Term.int (1 : Int32))) (Jvm.Term.int (110 : Int32))) args s = true := (nbl (nbr (nbl (nbl (nbr (nbl (nbl (nbr (nbr h)))))))))
theorem nar_s2_2 : Cond.before (Jvm.Cond.eq (Jvm.Term.elem (Jvm.Term.field (Jvm.Term.string "YawnRouteModel" (89 : Nat)) "java/lang/String" "value" "[B") (Jvm.Term.int (2 : Int32))) (Jvm.Term.int (101 : Int32))) args s = true := (nbr (nbr (nbl (nbl (nbr (nbl (nbl (nbr (nbr h)))))))))
theorem nar_s2_3 : Cond.before (Jvm.Cond.eq (Jvm.Term.elem (Jvm.Term.field (Jvm.Term.string "YawnRouteModel" (89 : Nat)) "java/lang/String" "value" "[B") (Jvm.Term.int (3 : Int32))) (Jvm.Term.int (116 : Int32))) args s = true := (nbl (nbl (nbr (nbl (nbr (nbl (nbl (nbr (nbr h)))))))))
theorem nar_s2_4 : Cond.before (Jvm.Cond.eq (Jvm.Term.elem (Jvm.Term.field (Jvm.Term.string "YawnRouteModel" (89 : Nat)) "java/lang/String" "value" "[B") (Jvm.Term.int (4 : Int32))) (Jvm.Term.int (32 : Int32))) args s = true := (nbr (nbl (nbr (nbl (nbr (nbl (nbl (nbr (nbr h)))))))))
theorem nar_s2_5 : Cond.before (Jvm.Cond.eq (Jvm.Term.elem (Jvm.Term.field (Jvm.Term.string "YawnRouteModel" (89 : Nat)) "java/lang/String" "value" "[B") (Jvm.Term.int (5 : Int32))) (Jvm.Term.int (115 : Int32))) args s = true := (nbl (nbr (nbr (nbl (nbr (nbl (nbl (nbr (nbr h)))))))))
theorem nar_s2_6 : Cond.before (Jvm.Cond.eq (Jvm.Term.elem (Jvm.Term.field (Jvm.Term.string "YawnRouteModel" (89 : Nat)) "java/lang/String" "value" "[B") (Jvm.Term.int (6 : Int32))) (Jvm.Term.int (116 : Int32))) args s = true := (nbr (nbr (nbr (nbl (nbr (nbl (nbl (nbr (nbr h)))))))))
theorem nar_s2_7 : Cond.before (Jvm.Cond.eq (Jvm.Term.elem (Jvm.Term.field (Jvm.Term.string "YawnRouteModel" (89 : Nat)) "java/lang/String" "value" "[B") (Jvm.Term.int (7 : Int32))) (Jvm.Term.int (97 : Int32))) args s = true := (nbl (nbl (nbl (nbr (nbr (nbl (nbl (nbr (nbr h)))))))))
theorem nar_s2_8 : Cond.before (Jvm.Cond.eq (Jvm.Term.elem (Jvm.Term.field (Jvm.Term.string "YawnRouteModel" (89 : Nat)) "java/lang/String" "value" "[B") (Jvm.Term.int (8 : Int32))) (Jvm.Term.int (116 : Int32))) args s = true := (nbr (nbl (nbl (nbr (nbr (nbl (nbl (nbr (nbr h)))))))))
theorem nar_s2_9 : Cond.before (Jvm.Cond.eq (Jvm.Term.elem (Jvm.Term.field (Jvm.Term.string "YawnRouteModel" (89 : Nat)) "java/lang/String" "value" "[B") (Jvm.Term.int (9 : Int32))) (Jvm.Term.int (105 : Int32))) args s = true := (nbl (nbr (nbl (nbr (nbr (nbl (nbl (nbr (nbr h)))))))))
theorem nar_s2_10 : Cond.before (Jvm.Cond.eq (Jvm.Term.elem (Jvm.Term.field (Jvm.Term.string "YawnRouteModel" (89 : Nat)) "java/lang/String" "value" "[B") (Jvm.Term.int (10 : Int32))) (Jvm.Term.int (111 : Int32))) args s = true := (nbr (nbr (nbl (nbr (nbr (nbl (nbl (nbr (nbr h)))))))))
theorem nar_s2_11 : Cond.before (Jvm.Cond.eq (Jvm.Term.elem (Jvm.Term.field (Jvm.Term.string "YawnRouteModel" (89 : Nat)) "java/lang/String" "value" "[B") (Jvm.Term.int (11 : Int32))) (Jvm.Term.int (110 : Int32))) args s = true := (nbl (nbl (nbr (nbr (nbr (nbl (nbl (nbr (nbr h)))))))))
theorem nar_s2_12 : Cond.before (Jvm.Cond.eq (Jvm.Term.elem (Jvm.Term.field (Jvm.Term.string "YawnRouteModel" (89 : Nat)) "java/lang/String" "value" "[B") (Jvm.Term.int (12 : Int32))) (Jvm.Term.int (32 : Int32))) args s = true := (nbr (nbl (nbr (nbr (nbr (nbl (nbl (nbr (nbr h)))))))))
theorem nar_s2_13 : Cond.before (Jvm.Cond.eq (Jvm.Term.elem (Jvm.Term.field (Jvm.Term.string "YawnRouteModel" (89 : Nat)) "java/lang/String" "value" "[B") (Jvm.Term.int (13 : Int32))) (Jvm.Term.int (119 : Int32))) args s = true := (nbl (nbr (nbr (nbr (nbr (nbl (nbl (nbr (nbr h)))))))))
theorem nar_s2_14 : Cond.before (Jvm.Cond.eq (Jvm.Term.elem (Jvm.Term.field (Jvm.Term.string "YawnRouteModel" (89 : Nat)) "java/lang/String" "value" "[B") (Jvm.Term.int (14 : Int32))) (Jvm.Term.int (97 : Int32))) args s = true := (nbl (nbr (nbr (nbr (nbr (nbr (nbl (nbl (nbr (nbr h))))))))))
theorem nar_s2_15 : Cond.before (Jvm.Cond.eq (Jvm.Term.elem (Jvm.Term.field (Jvm.Term.string "YawnRouteModel" (89 : Nat)) "java/lang/String" "value" "[B") (Jvm.Term.int (15 : Int32))) (Jvm.Term.int (121 : Int32))) args s = true := (nbr (nbr (nbr (nbr (nbr (nbr (nbl (nbl (nbr (nbr h))))))))))
theorem nar_s2_16 : Cond.before (Jvm.Cond.eq (Jvm.Term.elem (Jvm.Term.field (Jvm.Term.string "YawnRouteModel" (89 : Nat)) "java/lang/String" "value" "[B") (Jvm.Term.int (16 : Int32))) (Jvm.Term.int (32 : Int32))) args s = true := (nbl (nbl (nbl (nbl (nbl (nbr (nbl (nbr (nbr h)))))))))
theorem nar_s2_17 : Cond.before (Jvm.Cond.eq (Jvm.Term.elem (Jvm.Term.field (Jvm.Term.string "YawnRouteModel" (89 : Nat)) "java/lang/String" "value" "[B") (Jvm.Term.int (17 : Int32))) (Jvm.Term.int (97 : Int32))) args s = true := (nbr (nbl (nbl (nbl (nbl (nbr (nbl (nbr (nbr h)))))))))
theorem nar_s2_18 : Cond.before (Jvm.Cond.eq (Jvm.Term.elem (Jvm.Term.field (Jvm.Term.string "YawnRouteModel" (89 : Nat)) "java/lang/String" "value" "[B") (Jvm.Term.int (18 : Int32))) (Jvm.Term.int (116 : Int32))) args s = true := (nbl (nbr (nbl (nbl (nbl (nbr (nbl (nbr (nbr h)))))))))
theorem nar_s2_19 : Cond.before (Jvm.Cond.eq (Jvm.Term.elem (Jvm.Term.field (Jvm.Term.string "YawnRouteModel" (89 : Nat)) "java/lang/String" "value" "[B") (Jvm.Term.int (19 : Int32))) (Jvm.Term.int (32 : Int32))) args s = true := (nbr (nbr (nbl (nbl (nbl (nbr (nbl (nbr (nbr h)))))))))
theorem nar_s2_20 : Cond.before (Jvm.Cond.eq (Jvm.Term.elem (Jvm.Term.field (Jvm.Term.string "YawnRouteModel" (89 : Nat)) "java/lang/String" "value" "[B") (Jvm.Term.int (20 : Int32))) (Jvm.Term.int (116 : Int32))) args s = true := (nbl (nbl (nbr (nbl (nbl (nbr (nbl (nbr (nbr h)))))))))
theorem nar_s2_21 : Cond.before (Jvm.Cond.eq (Jvm.Term.elem (Jvm.Term.field (Jvm.Term.string "YawnRouteModel" (89 : Nat)) "java/lang/String" "value" "[B") (Jvm.Term.int (21 : Int32))) (Jvm.Term.int (97 : Int32))) args s = true := (nbr (nbl (nbr (nbl (nbl (nbr (nbl (nbr (nbr h)))))))))
theorem nar_s2_22 : Cond.before (Jvm.Cond.eq (Jvm.Term.elem (Jvm.Term.field (Jvm.Term.string "YawnRouteModel" (89 : Nat)) "java/lang/String" "value" "[B") (Jvm.Term.int (22 : Int32))) (Jvm.Term.int (107 : Int32))) args s = true := (nbl (nbr (nbr (nbl (nbl (nbr (nbl (nbr (nbr h)))))))))
theorem nar_s2_23 : Cond.before (Jvm.Cond.eq (Jvm.Term.elem (Jvm.Term.field (Jvm.Term.string "YawnRouteModel" (89 : Nat)) "java/lang/String" "value" "[B") (Jvm.Term.int (23 : Int32))) (Jvm.Term.int (101 : Int32))) args s = true := (nbr (nbr (nbr (nbl (nbl (nbr (nbl (nbr (nbr h)))))))))
theorem nar_s2_24 : Cond.before (Jvm.Cond.eq (Jvm.Term.elem (Jvm.Term.field (Jvm.Term.string "YawnRouteModel" (89 : Nat)) "java/lang/String" "value" "[B") (Jvm.Term.int (24 : Int32))) (Jvm.Term.int (115 : Int32))) args s = true := (nbl (nbl (nbl (nbr (nbl (nbr (nbl (nbr (nbr h)))))))))
theorem nar_s2_25 : Cond.before (Jvm.Cond.eq (Jvm.Term.elem (Jvm.Term.field (Jvm.Term.string "YawnRouteModel" (89 : Nat)) "java/lang/String" "value" "[B") (Jvm.Term.int (25 : Int32))) (Jvm.Term.int (32 : Int32))) args s = true := (nbr (nbl (nbl (nbr (nbl (nbr (nbl (nbr (nbr h)))))))))
theorem nar_s2_26 : Cond.before (Jvm.Cond.eq (Jvm.Term.elem (Jvm.Term.field (Jvm.Term.string "YawnRouteModel" (89 : Nat)) "java/lang/String" "value" "[B") (Jvm.Term.int (26 : Int32))) (Jvm.Term.int (112 : Int32))) args s = true := (nbl (nbr (nbl (nbr (nbl (nbr (nbl (nbr (nbr h)))))))))
theorem nar_s2_27 : Cond.before (Jvm.Cond.eq (Jvm.Term.elem (Jvm.Term.field (Jvm.Term.string "YawnRouteModel" (89 : Nat)) "java/lang/String" "value" "[B") (Jvm.Term.int (27 : Int32))) (Jvm.Term.int (97 : Int32))) args s = true := (nbr (nbr (nbl (nbr (nbl (nbr (nbl (nbr (nbr h)))))))))
theorem nar_s2_28 : Cond.before (Jvm.Cond.eq (Jvm.Term.elem (Jvm.Term.field (Jvm.Term.string "YawnRouteModel" (89 : Nat)) "java/lang/String" "value" "[B") (Jvm.Term.int (28 : Int32))) (Jvm.Term.int (115 : Int32))) args s = true := (nbl (nbl (nbr (nbr (nbl (nbr (nbl (nbr (nbr h)))))))))
theorem nar_s2_29 : Cond.before (Jvm.Cond.eq (Jvm.Term.elem (Jvm.Term.field (Jvm.Term.string "YawnRouteModel" (89 : Nat)) "java/lang/String" "value" "[B") (Jvm.Term.int (29 : Int32))) (Jvm.Term.int (115 : Int32))) args s = true := (nbr (nbl (nbr (nbr (nbl (nbr (nbl (nbr (nbr h)))))))))
theorem nar_s2_30 : Cond.before (Jvm.Cond.eq (Jvm.Term.elem (Jvm.Term.field (Jvm.Term.string "YawnRouteModel" (89 : Nat)) "java/lang/String" "value" "[B") (Jvm.Term.int (30 : Int32))) (Jvm.Term.int (101 : Int32))) args s = true := (nbl (nbr (nbr (nbr (nbl (nbr (nbl (nbr (nbr h)))))))))
theorem nar_s2_31 : Cond.before (Jvm.Cond.eq (Jvm.Term.elem (Jvm.Term.field (Jvm.Term.string "YawnRouteModel" (89 : Nat)) "java/lang/String" "value" "[B") (Jvm.Term.int (31 : Int32))) (Jvm.Term.int (115 : Int32))) args s = true := (nbl (nbr (nbr (nbr (nbr (nbl (nbr (nbl (nbr (nbr h))))))))))
theorem nar_s2_32 : Cond.before (Jvm.Cond.eq (Jvm.Term.elem (Jvm.Term.field (Jvm.Term.string "YawnRouteModel" (89 : Nat)) "java/lang/String" "value" "[B") (Jvm.Term.int (32 : Int32))) (Jvm.Term.int (32 : Int32))) args s = true := (nbr (nbr (nbr (nbr (nbr (nbl (nbr (nbl (nbr (nbr h))))))))))
theorem nar_s2_33 : Cond.before (Jvm.Cond.eq (Jvm.Term.elem (Jvm.Term.field (Jvm.Term.string "YawnRouteModel" (89 : Nat)) "java/lang/String" "value" "[B") (Jvm.Term.int (33 : Int32))) (Jvm.Term.int (100 : Int32))) args s = true := (nbl (nbl (nbl (nbl (nbr (nbr (nbl (nbr (nbr h)))))))))
theorem nar_s2_34 : Cond.before (Jvm.Cond.eq (Jvm.Term.elem (Jvm.Term.field (Jvm.Term.string "YawnRouteModel" (89 : Nat)) "java/lang/String" "value" "[B") (Jvm.Term.int (34 : Int32))) (Jvm.Term.int (117 : Int32))) args s = true := (nbr (nbl (nbl (nbl (nbr (nbr (nbl (nbr (nbr h)))))))))
theorem nar_s2_35 : Cond.before (Jvm.Cond.eq (Jvm.Term.elem (Jvm.Term.field (Jvm.Term.string "YawnRouteModel" (89 : Nat)) "java/lang/String" "value" "[B") (Jvm.Term.int (35 : Int32))) (Jvm.Term.int (108 : Int32))) args s = true := (nbl (nbr (nbl (nbl (nbr (nbr (nbl (nbr (nbr h)))))))))
theorem nar_s2_36 : Cond.before (Jvm.Cond.eq (Jvm.Term.elem (Jvm.Term.field (Jvm.Term.string "YawnRouteModel" (89 : Nat)) "java/lang/String" "value" "[B") (Jvm.Term.int (36 : Int32))) (Jvm.Term.int (108 : Int32))) args s = true := (nbr (nbr (nbl (nbl (nbr (nbr (nbl (nbr (nbr h)))))))))
theorem nar_s2_37 : Cond.before (Jvm.Cond.eq (Jvm.Term.elem (Jvm.Term.field (Jvm.Term.string "YawnRouteModel" (89 : Nat)) "java/lang/String" "value" "[B") (Jvm.Term.int (37 : Int32))) (Jvm.Term.int (32 : Int32))) args s = true := (nbl (nbl (nbr (nbl (nbr (nbr (nbl (nbr (nbr h)))))))))
theorem nar_s2_38 : Cond.before (Jvm.Cond.eq (Jvm.Term.elem (Jvm.Term.field (Jvm.Term.string "YawnRouteModel" (89 : Nat)) "java/lang/String" "value" "[B") (Jvm.Term.int (38 : Int32))) (Jvm.Term.int (107 : Int32))) args s = true := (nbr (nbl (nbr (nbl (nbr (nbr (nbl (nbr (nbr h)))))))))
theorem nar_s2_39 : Cond.before (Jvm.Cond.eq (Jvm.Term.elem (Jvm.Term.field (Jvm.Term.string "YawnRouteModel" (89 : Nat)) "java/lang/String" "value" "[B") (Jvm.Term.int (39 : Int32))) (Jvm.Term.int (105 : Int32))) args s = true := (nbl (nbr (nbr (nbl (nbr (nbr (nbl (nbr (nbr h)))))))))
theorem nar_s2_40 : Cond.before (Jvm.Cond.eq (Jvm.Term.elem (Jvm.Term.field (Jvm.Term.string "YawnRouteModel" (89 : Nat)) "java/lang/String" "value" "[B") (Jvm.Term.int (40 : Int32))) (Jvm.Term.int (110 : Int32))) args s = true := (nbl (nbr (nbr (nbr (nbl (nbr (nbr (nbl (nbr (nbr h))))))))))
theorem nar_s2_41 : Cond.before (Jvm.Cond.eq (Jvm.Term.elem (Jvm.Term.field (Jvm.Term.string "YawnRouteModel" (89 : Nat)) "java/lang/String" "value" "[B") (Jvm.Term.int (41 : Int32))) (Jvm.Term.int (100 : Int32))) args s = true := (nbr (nbr (nbr (nbr (nbl (nbr (nbr (nbl (nbr (nbr h))))))))))
theorem nar_s2_42 : Cond.before (Jvm.Cond.eq (Jvm.Term.elem (Jvm.Term.field (Jvm.Term.string "YawnRouteModel" (89 : Nat)) "java/lang/String" "value" "[B") (Jvm.Term.int (42 : Int32))) (Jvm.Term.int (32 : Int32))) args s = true := (nbl (nbl (nbl (nbr (nbr (nbr (nbl (nbr (nbr h)))))))))
theorem nar_s2_43 : Cond.before (Jvm.Cond.eq (Jvm.Term.elem (Jvm.Term.field (Jvm.Term.string "YawnRouteModel" (89 : Nat)) "java/lang/String" "value" "[B") (Jvm.Term.int (43 : Int32))) (Jvm.Term.int (97 : Int32))) args s = true := (nbr (nbl (nbl (nbr (nbr (nbr (nbl (nbr (nbr h)))))))))
theorem nar_s2_44 : Cond.before (Jvm.Cond.eq (Jvm.Term.elem (Jvm.Term.field (Jvm.Term.string "YawnRouteModel" (89 : Nat)) "java/lang/String" "value" "[B") (Jvm.Term.int (44 : Int32))) (Jvm.Term.int (115 : Int32))) args s = true := (nbl (nbr (nbl (nbr (nbr (nbr (nbl (nbr (nbr h)))))))))
theorem nar_s2_45 : Cond.before (Jvm.Cond.eq (Jvm.Term.elem (Jvm.Term.field (Jvm.Term.string "YawnRouteModel" (89 : Nat)) "java/lang/String" "value" "[B") (Jvm.Term.int (45 : Int32))) (Jvm.Term.int (108 : Int32))) args s = true := (nbr (nbr (nbl (nbr (nbr (nbr (nbl (nbr (nbr h)))))))))
theorem nar_s2_46 : Cond.before (Jvm.Cond.eq (Jvm.Term.elem (Jvm.Term.field (Jvm.Term.string "YawnRouteModel" (89 : Nat)) "java/lang/String" "value" "[B") (Jvm.Term.int (46 : Int32))) (Jvm.Term.int (101 : Int32))) args s = true := (nbl (nbl (nbr (nbr (nbr (nbr (nbl (nbr (nbr h)))))))))
theorem nar_s2_47 : Cond.before (Jvm.Cond.eq (Jvm.Term.elem (Jvm.Term.field (Jvm.Term.string "YawnRouteModel" (89 : Nat)) "java/lang/String" "value" "[B") (Jvm.Term.int (47 : Int32))) (Jvm.Term.int (101 : Int32))) args s = true := (nbr (nbl (nbr (nbr (nbr (nbr (nbl (nbr (nbr h)))))))))
theorem nar_s2_48 : Cond.before (Jvm.Cond.eq (Jvm.Term.elem (Jvm.Term.field (Jvm.Term.string "YawnRouteModel" (89 : Nat)) "java/lang/String" "value" "[B") (Jvm.Term.int (48 : Int32))) (Jvm.Term.int (112 : Int32))) args s = true := (nbl (nbr (nbr (nbr (nbr (nbr (nbl (nbr (nbr h)))))))))
theorem nar_s2_49 : Cond.before (Jvm.Cond.eq (Jvm.Term.elem (Jvm.Term.field (Jvm.Term.string "YawnRouteModel" (89 : Nat)) "java/lang/String" "value" "[B") (Jvm.Term.int (49 : Int32))) (Jvm.Term.int (32 : Int32))) args s = true := (nbl (nbr (nbr (nbr (nbr (nbr (nbr (nbl (nbr (nbr h))))))))))
theorem nar_s2_50 : Cond.before (Jvm.Cond.eq (Jvm.Term.elem (Jvm.Term.field (Jvm.Term.string "YawnRouteModel" (89 : Nat)) "java/lang/String" "value" "[B") (Jvm.Term.int (50 : Int32))) (Jvm.Term.int (104 : Int32))) args s = true := (nbr (nbr (nbr (nbr (nbr (nbr (nbr (nbl (nbr (nbr h))))))))))
theorem nar_s2_51 : Cond.before (Jvm.Cond.eq (Jvm.Term.elem (Jvm.Term.field (Jvm.Term.string "YawnRouteModel" (89 : Nat)) "java/lang/String" "value" "[B") (Jvm.Term.int (51 : Int32))) (Jvm.Term.int (111 : Int32))) args s = true := (nbl (nbl (nbl (nbl (nbl (nbl (nbr (nbr (nbr h)))))))))
theorem nar_s2_52 : Cond.before (Jvm.Cond.eq (Jvm.Term.elem (Jvm.Term.field (Jvm.Term.string "YawnRouteModel" (89 : Nat)) "java/lang/String" "value" "[B") (Jvm.Term.int (52 : Int32))) (Jvm.Term.int (117 : Int32))) args s = true := (nbr (nbl (nbl (nbl (nbl (nbl (nbr (nbr (nbr h)))))))))
theorem nar_s2_53 : Cond.before (Jvm.Cond.eq (Jvm.Term.elem (Jvm.Term.field (Jvm.Term.string "YawnRouteModel" (89 : Nat)) "java/lang/String" "value" "[B") (Jvm.Term.int (53 : Int32))) (Jvm.Term.int (114 : Int32))) args s = true := (nbl (nbr (nbl (nbl (nbl (nbl (nbr (nbr (nbr h)))))))))
theorem nar_s2_54 : Cond.before (Jvm.Cond.eq (Jvm.Term.elem (Jvm.Term.field (Jvm.Term.string "YawnRouteModel" (89 : Nat)) "java/lang/String" "value" "[B") (Jvm.Term.int (54 : Int32))) (Jvm.Term.int (115 : Int32))) args s = true := (nbr (nbr (nbl (nbl (nbl (nbl (nbr (nbr (nbr h)))))))))
theorem nar_s2_55 : Cond.before (Jvm.Cond.eq (Jvm.Term.elem (Jvm.Term.field (Jvm.Term.string "YawnRouteModel" (89 : Nat)) "java/lang/String" "value" "[B") (Jvm.Term.int (55 : Int32))) (Jvm.Term.int (32 : Int32))) args s = true := (nbl (nbl (nbr (nbl (nbl (nbl (nbr (nbr (nbr h)))))))))
theorem nar_s2_56 : Cond.before (Jvm.Cond.eq (Jvm.Term.elem (Jvm.Term.field (Jvm.Term.string "YawnRouteModel" (89 : Nat)) "java/lang/String" "value" "[B") (Jvm.Term.int (56 : Int32))) (Jvm.Term.int (111 : Int32))) args s = true := (nbr (nbl (nbr (nbl (nbl (nbl (nbr (nbr (nbr h)))))))))
theorem nar_s2_57 : Cond.before (Jvm.Cond.eq (Jvm.Term.elem (Jvm.Term.field (Jvm.Term.string "YawnRouteModel" (89 : Nat)) "java/lang/String" "value" "[B") (Jvm.Term.int (57 : Int32))) (Jvm.Term.int (100 : Int32))) args s = true := (nbl (nbr (nbr (nbl (nbl (nbl (nbr (nbr (nbr h)))))))))
theorem nar_s2_58 : Cond.before (Jvm.Cond.eq (Jvm.Term.elem (Jvm.Term.field (Jvm.Term.string "YawnRouteModel" (89 : Nat)) "java/lang/String" "value" "[B") (Jvm.Term.int (58 : Int32))) (Jvm.Term.int (100 : Int32))) args s = true := (nbr (nbr (nbr (nbl (nbl (nbl (nbr (nbr (nbr h)))))))))
theorem nar_s2_59 : Cond.before (Jvm.Cond.eq (Jvm.Term.elem (Jvm.Term.field (Jvm.Term.string "YawnRouteModel" (89 : Nat)) "java/lang/String" "value" "[B") (Jvm.Term.int (59 : Int32))) (Jvm.Term.int (115 : Int32))) args s = true := (nbl (nbl (nbl (nbr (nbl (nbl (nbr (nbr (nbr h)))))))))
theorem nar_s2_60 : Cond.before (Jvm.Cond.eq (Jvm.Term.elem (Jvm.Term.field (Jvm.Term.string "YawnRouteModel" (89 : Nat)) "java/lang/String" "value" "[B") (Jvm.Term.int (60 : Int32))) (Jvm.Term.int (32 : Int32))) args s = true := (nbr (nbl (nbl (nbr (nbl (nbl (nbr (nbr (nbr h)))))))))
theorem nar_s2_61 : Cond.before (Jvm.Cond.eq (Jvm.Term.elem (Jvm.Term.field (Jvm.Term.string "YawnRouteModel" (89 : Nat)) "java/lang/String" "value" "[B") (Jvm.Term.int (61 : Int32))) (Jvm.Term.int (115 : Int32))) args s = true := (nbl (nbr (nbl (nbr (nbl (nbl (nbr (nbr (nbr h)))))))))
theorem nar_s2_62 : Cond.before (Jvm.Cond.eq (Jvm.Term.elem (Jvm.Term.field (Jvm.Term.string "YawnRouteModel" (89 : Nat)) "java/lang/String" "value" "[B") (Jvm.Term.int (62 : Int32))) (Jvm.Term.int (105 : Int32))) args s = true := (nbr (nbr (nbl (nbr (nbl (nbl (nbr (nbr (nbr h)))))))))
theorem nar_s2_63 : Cond.before (Jvm.Cond.eq (Jvm.Term.elem (Jvm.Term.field (Jvm.Term.string "YawnRouteModel" (89 : Nat)) "java/lang/String" "value" "[B") (Jvm.Term.int (63 : Int32))) (Jvm.Term.int (122 : Int32))) args s = true := (nbl (nbl (nbr (nbr (nbl (nbl (nbr (nbr (nbr h)))))))))
theorem nar_s2_64 : Cond.before (Jvm.Cond.eq (Jvm.Term.elem (Jvm.Term.field (Jvm.Term.string "YawnRouteModel" (89 : Nat)) "java/lang/String" "value" "[B") (Jvm.Term.int (64 : Int32))) (Jvm.Term.int (101 : Int32))) args s = true := (nbr (nbl (nbr (nbr (nbl (nbl (nbr (nbr (nbr h)))))))))
theorem nar_s2_65 : Cond.before (Jvm.Cond.eq (Jvm.Term.elem (Jvm.Term.field (Jvm.Term.string "YawnRouteModel" (89 : Nat)) "java/lang/String" "value" "[B") (Jvm.Term.int (65 : Int32))) (Jvm.Term.int (32 : Int32))) args s = true := (nbl (nbr (nbr (nbr (nbl (nbl (nbr (nbr (nbr h)))))))))
theorem nar_s2_66 : Cond.before (Jvm.Cond.eq (Jvm.Term.elem (Jvm.Term.field (Jvm.Term.string "YawnRouteModel" (89 : Nat)) "java/lang/String" "value" "[B") (Jvm.Term.int (66 : Int32))) (Jvm.Term.int (105 : Int32))) args s = true := (nbl (nbr (nbr (nbr (nbr (nbl (nbl (nbr (nbr (nbr h))))))))))
theorem nar_s2_67 : Cond.before (Jvm.Cond.eq (Jvm.Term.elem (Jvm.Term.field (Jvm.Term.string "YawnRouteModel" (89 : Nat)) "java/lang/String" "value" "[B") (Jvm.Term.int (67 : Int32))) (Jvm.Term.int (102 : Int32))) args s = true := (nbr (nbr (nbr (nbr (nbr (nbl (nbl (nbr (nbr (nbr h))))))))))
theorem nar_s2_68 : Cond.before (Jvm.Cond.eq (Jvm.Term.elem (Jvm.Term.field (Jvm.Term.string "YawnRouteModel" (89 : Nat)) "java/lang/String" "value" "[B") (Jvm.Term.int (68 : Int32))) (Jvm.Term.int (32 : Int32))) args s = true := (nbl (nbl (nbl (nbl (nbr (nbl (nbr (nbr (nbr h)))))))))
theorem nar_s2_69 : Cond.before (Jvm.Cond.eq (Jvm.Term.elem (Jvm.Term.field (Jvm.Term.string "YawnRouteModel" (89 : Nat)) "java/lang/String" "value" "[B") (Jvm.Term.int (69 : Int32))) (Jvm.Term.int (116 : Int32))) args s = true := (nbr (nbl (nbl (nbl (nbr (nbl (nbr (nbr (nbr h)))))))))
theorem nar_s2_70 : Cond.before (Jvm.Cond.eq (Jvm.Term.elem (Jvm.Term.field (Jvm.Term.string "YawnRouteModel" (89 : Nat)) "java/lang/String" "value" "[B") (Jvm.Term.int (70 : Int32))) (Jvm.Term.int (104 : Int32))) args s = true := (nbl (nbr (nbl (nbl (nbr (nbl (nbr (nbr (nbr h)))))))))
theorem nar_s2_71 : Cond.before (Jvm.Cond.eq (Jvm.Term.elem (Jvm.Term.field (Jvm.Term.string "YawnRouteModel" (89 : Nat)) "java/lang/String" "value" "[B") (Jvm.Term.int (71 : Int32))) (Jvm.Term.int (101 : Int32))) args s = true := (nbr (nbr (nbl (nbl (nbr (nbl (nbr (nbr (nbr h)))))))))
theorem nar_s2_72 : Cond.before (Jvm.Cond.eq (Jvm.Term.elem (Jvm.Term.field (Jvm.Term.string "YawnRouteModel" (89 : Nat)) "java/lang/String" "value" "[B") (Jvm.Term.int (72 : Int32))) (Jvm.Term.int (110 : Int32))) args s = true := (nbl (nbl (nbr (nbl (nbr (nbl (nbr (nbr (nbr h)))))))))
theorem nar_s2_73 : Cond.before (Jvm.Cond.eq (Jvm.Term.elem (Jvm.Term.field (Jvm.Term.string "YawnRouteModel" (89 : Nat)) "java/lang/String" "value" "[B") (Jvm.Term.int (73 : Int32))) (Jvm.Term.int (32 : Int32))) args s = true := (nbr (nbl (nbr (nbl (nbr (nbl (nbr (nbr (nbr h)))))))))
theorem nar_s2_74 : Cond.before (Jvm.Cond.eq (Jvm.Term.elem (Jvm.Term.field (Jvm.Term.string "YawnRouteModel" (89 : Nat)) "java/lang/String" "value" "[B") (Jvm.Term.int (74 : Int32))) (Jvm.Term.int (101 : Int32))) args s = true := (nbl (nbr (nbr (nbl (nbr (nbl (nbr (nbr (nbr h)))))))))
theorem nar_s2_75 : Cond.before (Jvm.Cond.eq (Jvm.Term.elem (Jvm.Term.field (Jvm.Term.string "YawnRouteModel" (89 : Nat)) "java/lang/String" "value" "[B") (Jvm.Term.int (75 : Int32))) (Jvm.Term.int (108 : Int32))) args s = true := (nbr (nbr (nbr (nbl (nbr (nbl (nbr (nbr (nbr h)))))))))
theorem nar_s2_76 : Cond.before (Jvm.Cond.eq (Jvm.Term.elem (Jvm.Term.field (Jvm.Term.string "YawnRouteModel" (89 : Nat)) "java/lang/String" "value" "[B") (Jvm.Term.int (76 : Int32))) (Jvm.Term.int (115 : Int32))) args s = true := (nbl (nbl (nbl (nbr (nbr (nbl (nbr (nbr (nbr h)))))))))
theorem nar_s2_77 : Cond.before (Jvm.Cond.eq (Jvm.Term.elem (Jvm.Term.field (Jvm.Term.string "YawnRouteModel" (89 : Nat)) "java/lang/String" "value" "[B") (Jvm.Term.int (77 : Int32))) (Jvm.Term.int (101 : Int32))) args s = true := (nbr (nbl (nbl (nbr (nbr (nbl (nbr (nbr (nbr h)))))))))
theorem nar_s2_78 : Cond.before (Jvm.Cond.eq (Jvm.Term.elem (Jvm.Term.field (Jvm.Term.string "YawnRouteModel" (89 : Nat)) "java/lang/String" "value" "[B") (Jvm.Term.int (78 : Int32))) (Jvm.Term.int (32 : Int32))) args s = true := (nbl (nbr (nbl (nbr (nbr (nbl (nbr (nbr (nbr h)))))))))
theorem nar_s2_79 : Cond.before (Jvm.Cond.eq (Jvm.Term.elem (Jvm.Term.field (Jvm.Term.string "YawnRouteModel" (89 : Nat)) "java/lang/String" "value" "[B") (Jvm.Term.int (79 : Int32))) (Jvm.Term.int (101 : Int32))) args s = true := (nbr (nbr (nbl (nbr (nbr (nbl (nbr (nbr (nbr h)))))))))
theorem nar_s2_80 : Cond.before (Jvm.Cond.eq (Jvm.Term.elem (Jvm.Term.field (Jvm.Term.string "YawnRouteModel" (89 : Nat)) "java/lang/String" "value" "[B") (Jvm.Term.int (80 : Int32))) (Jvm.Term.int (110 : Int32))) args s = true := (nbl (nbl (nbr (nbr (nbr (nbl (nbr (nbr (nbr h)))))))))
theorem nar_s2_81 : Cond.before (Jvm.Cond.eq (Jvm.Term.elem (Jvm.Term.field (Jvm.Term.string "YawnRouteModel" (89 : Nat)) "java/lang/String" "value" "[B") (Jvm.Term.int (81 : Int32))) (Jvm.Term.int (100 : Int32))) args s = true := (nbr (nbl (nbr (nbr (nbr (nbl (nbr (nbr (nbr h)))))))))
theorem nar_s2_82 : Cond.before (Jvm.Cond.eq (Jvm.Term.elem (Jvm.Term.field (Jvm.Term.string "YawnRouteModel" (89 : Nat)) "java/lang/String" "value" "[B") (Jvm.Term.int (82 : Int32))) (Jvm.Term.int (32 : Int32))) args s = true := (nbl (nbr (nbr (nbr (nbr (nbl (nbr (nbr (nbr h)))))))))
theorem nar_s2_83 : Cond.before (Jvm.Cond.eq (Jvm.Term.elem (Jvm.Term.field (Jvm.Term.string "YawnRouteModel" (89 : Nat)) "java/lang/String" "value" "[B") (Jvm.Term.int (83 : Int32))) (Jvm.Term.int (102 : Int32))) args s = true := (nbl (nbr (nbr (nbr (nbr (nbr (nbl (nbr (nbr (nbr h))))))))))
theorem nar_s2_84 : Cond.before (Jvm.Cond.eq (Jvm.Term.elem (Jvm.Term.field (Jvm.Term.string "YawnRouteModel" (89 : Nat)) "java/lang/String" "value" "[B") (Jvm.Term.int (84 : Int32))) (Jvm.Term.int (114 : Int32))) args s = true := (nbr (nbr (nbr (nbr (nbr (nbr (nbl (nbr (nbr (nbr h))))))))))
theorem nar_s2_85 : Cond.before (Jvm.Cond.eq (Jvm.Term.elem (Jvm.Term.field (Jvm.Term.string "YawnRouteModel" (89 : Nat)) "java/lang/String" "value" "[B") (Jvm.Term.int (85 : Int32))) (Jvm.Term.int (111 : Int32))) args s = true := (nbl (nbl (nbl (nbl (nbl (nbr (nbr (nbr (nbr h)))))))))
theorem nar_s2_86 : Cond.before (Jvm.Cond.eq (Jvm.Term.elem (Jvm.Term.field (Jvm.Term.string "YawnRouteModel" (89 : Nat)) "java/lang/String" "value" "[B") (Jvm.Term.int (86 : Int32))) (Jvm.Term.int (109 : Int32))) args s = true := (nbr (nbl (nbl (nbl (nbl (nbr (nbr (nbr (nbr h)))))))))
theorem nar_s2_87 : Cond.before (Jvm.Cond.eq (Jvm.Term.elem (Jvm.Term.field (Jvm.Term.string "YawnRouteModel" (89 : Nat)) "java/lang/String" "value" "[B") (Jvm.Term.int (87 : Int32))) (Jvm.Term.int (32 : Int32))) args s = true := (nbl (nbr (nbl (nbl (nbl (nbr (nbr (nbr (nbr h)))))))))
theorem nar_s2_88 : Cond.before (Jvm.Cond.eq (Jvm.Term.elem (Jvm.Term.field (Jvm.Term.string "YawnRouteModel" (89 : Nat)) "java/lang/String" "value" "[B") (Jvm.Term.int (88 : Int32))) (Jvm.Term.int (97 : Int32))) args s = true := (nbr (nbr (nbl (nbl (nbl (nbr (nbr (nbr (nbr h)))))))))
theorem nar_s2_89 : Cond.before (Jvm.Cond.eq (Jvm.Term.elem (Jvm.Term.field (Jvm.Term.string "YawnRouteModel" (89 : Nat)) "java/lang/String" "value" "[B") (Jvm.Term.int (89 : Int32))) (Jvm.Term.int (110 : Int32))) args s = true := (nbl (nbl (nbr (nbl (nbl (nbr (nbr (nbr (nbr h)))))))))
theorem nar_s2_90 : Cond.before (Jvm.Cond.eq (Jvm.Term.elem (Jvm.Term.field (Jvm.Term.string "YawnRouteModel" (89 : Nat)) "java/lang/String" "value" "[B") (Jvm.Term.int (90 : Int32))) (Jvm.Term.int (100 : Int32))) args s = true := (nbr (nbl (nbr (nbl (nbl (nbr (nbr (nbr (nbr h)))))))))
theorem nar_s2_91 : Cond.before (Jvm.Cond.eq (Jvm.Term.elem (Jvm.Term.field (Jvm.Term.string "YawnRouteModel" (89 : Nat)) "java/lang/String" "value" "[B") (Jvm.Term.int (91 : Int32))) (Jvm.Term.int (32 : Int32))) args s = true := (nbl (nbr (nbr (nbl (nbl (nbr (nbr (nbr (nbr h)))))))))
theorem nar_s2_92 : Cond.before (Jvm.Cond.eq (Jvm.Term.elem (Jvm.Term.field (Jvm.Term.string "YawnRouteModel" (89 : Nat)) "java/lang/String" "value" "[B") (Jvm.Term.int (92 : Int32))) (Jvm.Term.int (111 : Int32))) args s = true := (nbr (nbr (nbr (nbl (nbl (nbr (nbr (nbr (nbr h)))))))))
theorem nar_s2_93 : Cond.before (Jvm.Cond.eq (Jvm.Term.elem (Jvm.Term.field (Jvm.Term.string "YawnRouteModel" (89 : Nat)) "java/lang/String" "value" "[B") (Jvm.Term.int (93 : Int32))) (Jvm.Term.int (114 : Int32))) args s = true := (nbl (nbl (nbl (nbr (nbl (nbr (nbr (nbr (nbr h)))))))))
theorem nar_s2_94 : Cond.before (Jvm.Cond.eq (Jvm.Term.elem (Jvm.Term.field (Jvm.Term.string "YawnRouteModel" (89 : Nat)) "java/lang/String" "value" "[B") (Jvm.Term.int (94 : Int32))) (Jvm.Term.int (32 : Int32))) args s = true := (nbr (nbl (nbl (nbr (nbl (nbr (nbr (nbr (nbr h)))))))))
theorem nar_s2_95 : Cond.before (Jvm.Cond.eq (Jvm.Term.elem (Jvm.Term.field (Jvm.Term.string "YawnRouteModel" (89 : Nat)) "java/lang/String" "value" "[B") (Jvm.Term.int (95 : Int32))) (Jvm.Term.int (110 : Int32))) args s = true := (nbl (nbr (nbl (nbr (nbl (nbr (nbr (nbr (nbr h)))))))))
theorem nar_s2_96 : Cond.before (Jvm.Cond.eq (Jvm.Term.elem (Jvm.Term.field (Jvm.Term.string "YawnRouteModel" (89 : Nat)) "java/lang/String" "value" "[B") (Jvm.Term.int (96 : Int32))) (Jvm.Term.int (111 : Int32))) args s = true := (nbr (nbr (nbl (nbr (nbl (nbr (nbr (nbr (nbr h)))))))))
theorem nar_s2_97 : Cond.before (Jvm.Cond.eq (Jvm.Term.elem (Jvm.Term.field (Jvm.Term.string "YawnRouteModel" (89 : Nat)) "java/lang/String" "value" "[B") (Jvm.Term.int (97 : Int32))) (Jvm.Term.int (116 : Int32))) args s = true := (nbl (nbl (nbr (nbr (nbl (nbr (nbr (nbr (nbr h)))))))))
theorem nar_s2_98 : Cond.before (Jvm.Cond.eq (Jvm.Term.elem (Jvm.Term.field (Jvm.Term.string "YawnRouteModel" (89 : Nat)) "java/lang/String" "value" "[B") (Jvm.Term.int (98 : Int32))) (Jvm.Term.int (32 : Int32))) args s = true := (nbr (nbl (nbr (nbr (nbl (nbr (nbr (nbr (nbr h)))))))))
theorem nar_s2 : ∀ j, j < 99 → (Cond.eq (.elem (.field (sTm 2) "java/lang/String" "value" "[B") (.int (Int32.ofNat j))) (.int ((sByt.getD 2 []).getD j 0))).before args s = true := lt_s (lt_s (lt_s (lt_s (lt_s (lt_s (lt_s (lt_s (lt_s (lt_s (lt_s (lt_s (lt_s (lt_s (lt_s (lt_s (lt_s (lt_s (lt_s (lt_s (lt_s (lt_s (lt_s (lt_s (lt_s (lt_s (lt_s (lt_s (lt_s (lt_s (lt_s (lt_s (lt_s (lt_s (lt_s (lt_s (lt_s (lt_s (lt_s (lt_s (lt_s (lt_s (lt_s (lt_s (lt_s (lt_s (lt_s (lt_s (lt_s (lt_s (lt_s (lt_s (lt_s (lt_s (lt_s (lt_s (lt_s (lt_s (lt_s (lt_s (lt_s (lt_s (lt_s (lt_s (lt_s (lt_s (lt_s (lt_s (lt_s (lt_s (lt_s (lt_s (lt_s (lt_s (lt_s (lt_s (lt_s (lt_s (lt_s (lt_s (lt_s (lt_s (lt_s (lt_s (lt_s (lt_s (lt_s (lt_s (lt_s (lt_s (lt_s (lt_s (lt_s (lt_s (lt_s (lt_s (lt_s (lt_s (lt_s (lt_0) (nar_s2_0 h)) (nar_s2_1 h)) (nar_s2_2 h)) (nar_s2_3 h)) (nar_s2_4 h)) (nar_s2_5 h)) (nar_s2_6 h)) (nar_s2_7 h)) (nar_s2_8 h)) (nar_s2_9 h)) (nar_s2_10 h)) (nar_s2_11 h)) (nar_s2_12 h)) (nar_s2_13 h)) (nar_s2_14 h)) (nar_s2_15 h)) (nar_s2_16 h)) (nar_s2_17 h)) (nar_s2_18 h)) (nar_s2_19 h)) (nar_s2_20 h)) (nar_s2_21 h)) (nar_s2_22 h)) (nar_s2_23 h)) (nar_s2_24 h)) (nar_s2_25 h)) (nar_s2_26 h)) (nar_s2_27 h)) (nar_s2_28 h)) (nar_s2_29 h)) (nar_s2_30 h)) (nar_s2_31 h)) (nar_s2_32 h)) (nar_s2_33 h)) (nar_s2_34 h)) (nar_s2_35 h)) (nar_s2_36 h)) (nar_s2_37 h)) (nar_s2_38 h)) (nar_s2_39 h)) (nar_s2_40 h)) (nar_s2_41 h)) (nar_s2_42 h)) (nar_s2_43 h)) (nar_s2_44 h)) (nar_s2_45 h)) (nar_s2_46 h)) (nar_s2_47 h)) (nar_s2_48 h)) (nar_s2_49 h)) (nar_s2_50 h)) (nar_s2_51 h)) (nar_s2_52 h)) (nar_s2_53 h)) (nar_s2_54 h)) (nar_s2_55 h)) (nar_s2_56 h)) (nar_s2_57 h)) (nar_s2_58 h)) (nar_s2_59 h)) (nar_s2_60 h)) (nar_s2_61 h)) (nar_s2_62 h)) (nar_s2_63 h)) (nar_s2_64 h)) (nar_s2_65 h)) (nar_s2_66 h)) (nar_s2_67 h)) (nar_s2_68 h)) (nar_s2_69 h)) (nar_s2_70 h)) (nar_s2_71 h)) (nar_s2_72 h)) (nar_s2_73 h)) (nar_s2_74 h)) (nar_s2_75 h)) (nar_s2_76 h)) (nar_s2_77 h)) (nar_s2_78 h)) (nar_s2_79 h)) (nar_s2_80 h)) (nar_s2_81 h)) (nar_s2_82 h)) (nar_s2_83 h)) (nar_s2_84 h)) (nar_s2_85 h)) (nar_s2_86 h)) (nar_s2_87 h)) (nar_s2_88 h)) (nar_s2_89 h)) (nar_s2_90 h)) (nar_s2_91 h)) (nar_s2_92 h)) (nar_s2_93 h)) (nar_s2_94 h)) (nar_s2_95 h)) (nar_s2_96 h)) (nar_s2_97 h)) (nar_s2_98 h)
theorem nar_e3 : Cond.before (Jvm.Cond.exactly (Jvm.Term.string "YawnRouteModel" (127 : Nat)) "java/lang/String") args s = true := (nbr (nbr (nbr (nbr (nbr (nbl (nbr (nbr (nbr (nbr h))))))))))
theorem nar_c3 : Cond.before (Jvm.Cond.eq (Jvm.Term.field (Jvm.Term.string "YawnRouteModel" (127 : Nat)) "java/lang/String" "coder" "B") (Jvm.Term.int (0 : Int32))) args s = true := (nbl (nbl (nbl (nbl (nbr (nbr (nbr (nbr (nbr h)))))))))
theorem nar_a3 : Cond.before (Jvm.Cond.arrayOf (Jvm.Term.field (Jvm.Term.string "YawnRouteModel" (127 : Nat)) "java/lang/String" "value" "[B") Jvm.ClassFile.FieldType.byte) args s = true := (nbr (nbl (nbl (nbl (nbr (nbr (nbr (nbr (nbr h)))))))))
theorem nar_l3 : Cond.before (Jvm.Cond.eq (Jvm.Term.length (Jvm.Term.field (Jvm.Term.string "YawnRouteModel" (127 : Nat)) "java/lang/String" "value" "[B")) (Jvm.Term.int (12 : Int32))) args s = true := (nbl (nbr (nbl (nbl (nbr (nbr (nbr (nbr (nbr h)))))))))
theorem nar_s3_0 : Cond.before (Jvm.Cond.eq (Jvm.Term.elem (Jvm.Term.field (Jvm.Term.string "YawnRouteModel" (127 : Nat)) "java/lang/String" "value" "[B") (Jvm.Term.int (0 : Int32))) (Jvm.Term.int (59 : Int32))) args s = true := (nbr (nbr (nbl (nbl (nbr (nbr (nbr (nbr (nbr h)))))))))
theorem nar_s3_1 : Cond.before (Jvm.Cond.eq (Jvm.Term.elem (Jvm.Term.field (Jvm.Term.string "YawnRouteModel" (127 : Nat)) "java/lang/String" "value" "[B") (Jvm.Term.int (1 : Int32))) (Jvm.Term.int (58 : Int32))) args s = true := (nbl (nbl (nbr (nbl (nbr (nbr (nbr (nbr (nbr h)))))))))
theorem nar_s3_2 : Cond.before (Jvm.Cond.eq (Jvm.Term.elem (Jvm.Term.field (Jvm.Term.string "YawnRouteModel" (127 : Nat)) "java/lang/String" "value" "[B") (Jvm.Term.int (2 : Int32))) (Jvm.Term.int (43 : Int32))) args s = true := (nbr (nbl (nbr (nbl (nbr (nbr (nbr (nbr (nbr h)))))))))
theorem nar_s3_3 : Cond.before (Jvm.Cond.eq (Jvm.Term.elem (Jvm.Term.field (Jvm.Term.string "YawnRouteModel" (127 : Nat)) "java/lang/String" "value" "[B") (Jvm.Term.int (3 : Int32))) (Jvm.Term.int (45 : Int32))) args s = true := (nbl (nbr (nbr (nbl (nbr (nbr (nbr (nbr (nbr h)))))))))
theorem nar_s3_4 : Cond.before (Jvm.Cond.eq (Jvm.Term.elem (Jvm.Term.field (Jvm.Term.string "YawnRouteModel" (127 : Nat)) "java/lang/String" "value" "[B") (Jvm.Term.int (4 : Int32))) (Jvm.Term.int (42 : Int32))) args s = true := (nbl (nbr (nbr (nbr (nbl (nbr (nbr (nbr (nbr (nbr h))))))))))
theorem nar_s3_5 : Cond.before (Jvm.Cond.eq (Jvm.Term.elem (Jvm.Term.field (Jvm.Term.string "YawnRouteModel" (127 : Nat)) "java/lang/String" "value" "[B") (Jvm.Term.int (5 : Int32))) (Jvm.Term.int (40 : Int32))) args s = true := (nbr (nbr (nbr (nbr (nbl (nbr (nbr (nbr (nbr (nbr h))))))))))
theorem nar_s3_6 : Cond.before (Jvm.Cond.eq (Jvm.Term.elem (Jvm.Term.field (Jvm.Term.string "YawnRouteModel" (127 : Nat)) "java/lang/String" "value" "[B") (Jvm.Term.int (6 : Int32))) (Jvm.Term.int (41 : Int32))) args s = true := (nbl (nbl (nbl (nbr (nbr (nbr (nbr (nbr (nbr h)))))))))
theorem nar_s3_7 : Cond.before (Jvm.Cond.eq (Jvm.Term.elem (Jvm.Term.field (Jvm.Term.string "YawnRouteModel" (127 : Nat)) "java/lang/String" "value" "[B") (Jvm.Term.int (7 : Int32))) (Jvm.Term.int (91 : Int32))) args s = true := (nbr (nbl (nbl (nbr (nbr (nbr (nbr (nbr (nbr h)))))))))
theorem nar_s3_8 : Cond.before (Jvm.Cond.eq (Jvm.Term.elem (Jvm.Term.field (Jvm.Term.string "YawnRouteModel" (127 : Nat)) "java/lang/String" "value" "[B") (Jvm.Term.int (8 : Int32))) (Jvm.Term.int (93 : Int32))) args s = true := (nbl (nbr (nbl (nbr (nbr (nbr (nbr (nbr (nbr h)))))))))
theorem nar_s3_9 : Cond.before (Jvm.Cond.eq (Jvm.Term.elem (Jvm.Term.field (Jvm.Term.string "YawnRouteModel" (127 : Nat)) "java/lang/String" "value" "[B") (Jvm.Term.int (9 : Int32))) (Jvm.Term.int (61 : Int32))) args s = true := (nbr (nbr (nbl (nbr (nbr (nbr (nbr (nbr (nbr h)))))))))
theorem nar_s3_10 : Cond.before (Jvm.Cond.eq (Jvm.Term.elem (Jvm.Term.field (Jvm.Term.string "YawnRouteModel" (127 : Nat)) "java/lang/String" "value" "[B") (Jvm.Term.int (10 : Int32))) (Jvm.Term.int (60 : Int32))) args s = true := (nbl (nbl (nbr (nbr (nbr (nbr (nbr (nbr (nbr h)))))))))
theorem nar_s3_11 : Cond.before (Jvm.Cond.eq (Jvm.Term.elem (Jvm.Term.field (Jvm.Term.string "YawnRouteModel" (127 : Nat)) "java/lang/String" "value" "[B") (Jvm.Term.int (11 : Int32))) (Jvm.Term.int (62 : Int32))) args s = true := (nbr (nbl (nbr (nbr (nbr (nbr (nbr (nbr (nbr h)))))))))
theorem nar_s3 : ∀ j, j < 12 → (Cond.eq (.elem (.field (sTm 3) "java/lang/String" "value" "[B") (.int (Int32.ofNat j))) (.int ((sByt.getD 3 []).getD j 0))).before args s = true := lt_s (lt_s (lt_s (lt_s (lt_s (lt_s (lt_s (lt_s (lt_s (lt_s (lt_s (lt_s (lt_0) (nar_s3_0 h)) (nar_s3_1 h)) (nar_s3_2 h)) (nar_s3_3 h)) (nar_s3_4 h)) (nar_s3_5 h)) (nar_s3_6 h)) (nar_s3_7 h)) (nar_s3_8 h)) (nar_s3_9 h)) (nar_s3_10 h)) (nar_s3_11 h)
end NAR
theorem str_one {args : Array Value} {s : State} {tm : Term} {n : Nat} {f : Nat → Int32} {A : Nat → Prop} (hN : n < 2 ^ 31) (hex : (Cond.exactly tm "java/lang/String").before args s = true) (hco : (Cond.eq (.field tm "java/lang/String" "coder" "B") (.int 0)).before args s = true) (har : (Cond.arrayOf (.field tm "java/lang/String" "value" "[B") .byte).before args s = true) (hle : (Cond.eq (.length (.field tm "java/lang/String" "value" "[B")) (.int (Int32.ofNat n))).before args s = true) (hel : ∀ j : Nat, j < n → (Cond.eq (.elem (.field tm "java/lang/String" "value" "[B") (.int (Int32.ofNat j))) (.int (f j))).before args s = true) (hA : ∀ a : Nat, a < s.heap.size → ¬ A a) :
    ∃ q : Nat × Nat, tm.eval args s none [] s = some (.ref q.1) ∧ va_O "java/lang/String" q.1 A s s.heap ∧ va_OF "java/lang/String" "coder" "B" (.int 0) q.1 A s s.heap ∧ va_OF "java/lang/String" "value" "[B" (.ref q.2) q.1 A s s.heap ∧ va_T .byte q.2 n (fun j => .int (f j)) A s s.heap := by
  obtain ⟨a, c, cA, kA, q1, q2, q3, q4, q5, q6, -⟩ := Cond.exactly_spec (args := args) (first := s) (o := none) (s := s) (idx := []) (t := tm) (cls := "java/lang/String") hex
  obtain ⟨t, ht, hT⟩ := va_Tof (f := fun j => .int (f j)) (A := A) hN har (va_eqt hle) (fun j hj => va_eqt (hel j hj)) hA
  exact ⟨(a, t), q1, ⟨cA, q3, q5, by rw [q6]; exact q2, hA a (Array.getElem?_eq_some_iff.mp q3).1⟩, vk_OFof q1 (va_eqt hco) hA, vk_OFof q1 ht hA, hT⟩
theorem str_all {args : Array Value} {s : State} {A : Nat → Prop} (h : (Jvm.Cond.and given_1 narrow_1).before args s = true) (hA : ∀ a : Nat, a < s.heap.size → ¬ A a) :
    ∃ adK adV : Nat → Nat, (∀ i : Nat, i < 4 → va_O "java/lang/String" (adK i) A s s.heap ∧ va_OF "java/lang/String" "coder" "B" (.int 0) (adK i) A s s.heap ∧ va_OF "java/lang/String" "value" "[B" (.ref (adV i)) (adK i) A s s.heap ∧ va_T .byte (adV i) (sLen.getD i 0) (fun j => .int ((sByt.getD i []).getD j 0)) A s s.heap) ∧ ∀ i : Nat, i < 4 → (sTm i).eval args s none [] s = some (.ref (adK i)) := by
  obtain ⟨q0, h0⟩ := str_one (tm := sTm 0) (n := sLen.getD 0 0) (f := fun j => (sByt.getD 0 []).getD j 0) (by decide) (nar_e0 h) (nar_c0 h) (nar_a0 h) (nar_l0 h) (nar_s0 h) hA
  obtain ⟨q1, h1⟩ := str_one (tm := sTm 1) (n := sLen.getD 1 0) (f := fun j => (sByt.getD 1 []).getD j 0) (by decide) (nar_e1 h) (nar_c1 h) (nar_a1 h) (nar_l1 h) (nar_s1 h) hA
  obtain ⟨q2, h2⟩ := str_one (tm := sTm 2) (n := sLen.getD 2 0) (f := fun j => (sByt.getD 2 []).getD j 0) (by decide) (nar_e2 h) (nar_c2 h) (nar_a2 h) (nar_l2 h) (nar_s2 h) hA
  obtain ⟨q3, h3⟩ := str_one (tm := sTm 3) (n := sLen.getD 3 0) (f := fun j => (sByt.getD 3 []).getD j 0) (by decide) (nar_e3 h) (nar_c3 h) (nar_a3 h) (nar_l3 h) (nar_s3 h) hA
  refine ⟨fun i => match i with | 0 => q0.1 | 1 => q1.1 | 2 => q2.1 | _ => q3.1, fun i => match i with | 0 => q0.2 | 1 => q1.2 | 2 => q2.2 | _ => q3.2, fun i hi => ?_, fun i hi => ?_⟩
  · match i, hi with
    | 0, _ => exact h0.2
    | 1, _ => exact h1.2
    | 2, _ => exact h2.2
    | 3, _ => exact h3.2
  · match i, hi with
    | 0, _ => exact h0.1
    | 1, _ => exact h1.1
    | 2, _ => exact h2.1
    | 3, _ => exact h3.1
theorem aty_of {args : Array Value} {s : State} {t : FieldType} (h : (Cond.arrayClass t).before args s = true) (ho : ∀ C, t ≠ .object C) : ∃ c : ClassId, ArrOfT s c t ∧ va_RA s c t := by
  obtain ⟨c, k, comp, h1, h2, h3⟩ := Cond.arrayClass_spec h
  refine ⟨c, fun N z => ⟨(fun q hq => by cases hq), k, h2, comp, h3⟩, ?_⟩
  cases t <;> first | exact h1 | exact absurd rfl (ho _)
theorem aov_of {args : Array Value} {s : State} {t : FieldType} (h : (Cond.arrayOver (.array t)).before args s = true) : ∃ c : ClassId, ArrOfT s c (.array t) ∧ va_RA s c (.array t) := by
  obtain ⟨comp, c, k, h1, h2, h3, h4, h5⟩ := arrayOverA_spec h
  exact ⟨c, fun N z => ⟨(fun q hq => by cases hq), k, h3, comp, h4⟩, h5⟩
theorem aoc_of {args : Array Value} {s : State} {C : String} (h : (Cond.arrayOver (.object C)).before args s = true) : ∃ c : ClassId, ArrOfT s c (.object C) ∧ va_RA s c (.object C) := by
  obtain ⟨comp, c, k, h1, h2, h3, h4, h5⟩ := Cond.arrayOver_spec h
  exact ⟨c, fun N z => ⟨(fun q hq => by cases hq), k, h3, comp, h4⟩, k, comp, h3, h4, h1, h5⟩
set_option maxRecDepth 20000 in
set_option maxHeartbeats 4000000 in
theorem whole_start {p : Program} {e : Env} {s : State} {m : MethodId} {below : List Frame} {meth : Method} {c : Code} (l : Launch) (hflags : l.flags = flags0) {b L : Nat} {xs : Nat → Int32} (hL : L ≤ 3072) (C0 : lw_At p s m meth c b L xs) : W p l e room_1 s m #[Value.ref b] below meth c s.heap [] 0 0 (lw_Z below #[Value.ref b] s) (entryFrame m ([Value.ref b] : List Value).toArray 4) := by
  obtain ⟨hx, hb, hr, hml, hown, hts, hX, hbl, hlocks, hgv⟩ := id C0
  have hA : ∀ a : Nat, a < s.heap.size → ¬ (fun q => s.heap.size ≤ q) a := fun a h => Nat.not_le.mpr h
  obtain ⟨adK, adV, hvS, hvE⟩ := str_all hgv hA
  have hcls : ∀ ci, ∃ (cC : ClassId) (iS : Nat → Nat), ci < 13 → u_Kn s (cN ci) (cT ci) (cF ci) cC iS := by
    intro ci
    by_cases h : ci < 13
    · have hi : Cond.instantiable (cN ci) (cF ci) ∈ lw_tbl := by
        match ci, h with
        | 0, _ => exact (List.mem_filter.mp lk234).1
        | 1, _ => exact (List.mem_filter.mp lk183).1
        | 2, _ => exact (List.mem_filter.mp lk81).1
        | 3, _ => exact (List.mem_filter.mp lk75).1
        | 4, _ => exact (List.mem_filter.mp lk277).1
        | 5, _ => exact (List.mem_filter.mp lk316).1
        | 6, _ => exact (List.mem_filter.mp lk338).1
        | 7, _ => exact (List.mem_filter.mp lk144).1
        | 8, _ => exact (List.mem_filter.mp lk363).1
        | 9, _ => exact (List.mem_filter.mp lk32).1
        | 10, _ => exact (List.mem_filter.mp lk215).1
        | 11, _ => exact (List.mem_filter.mp lk24).1
        | 12, _ => exact (List.mem_filter.mp lk1322).1
      obtain ⟨cC, iS, hK⟩ := u_known (C := cN ci) (T := cT ci) (N := cF ci) hts (fun w hw => (List.mem_filter.mp (inW ci h w hw)).1) (hts _ hi)
      exact ⟨cC, iS, fun _ => hK⟩
    · exact ⟨0, fun _ => 0, fun q => absurd q h⟩
  obtain ⟨dC, hdC⟩ := Classical.axiomOfChoice hcls
  obtain ⟨dI, hdI⟩ := Classical.axiomOfChoice hdC
  have hty : ∀ t, ∃ cA : ClassId, t < 8 → ArrOfT s cA (ety t) ∧ va_RA s cA (ety t) := by
    intro t
    match t with
    | 0 => obtain ⟨c, h⟩ := aty_of (hts _ (List.mem_filter.mp lk142).1) (fun C q => by cases q); exact ⟨c, fun _ => h⟩
    | 1 => obtain ⟨c, h⟩ := aty_of (hts _ (List.mem_filter.mp lk73).1) (fun C q => by cases q); exact ⟨c, fun _ => h⟩
    | 2 => obtain ⟨c, h⟩ := aty_of (hts _ (List.mem_filter.mp lk430).1) (fun C q => by cases q); exact ⟨c, fun _ => h⟩
    | 3 => obtain ⟨c, h⟩ := aty_of (hts _ (List.mem_filter.mp lk232).1) (fun C q => by cases q); exact ⟨c, fun _ => h⟩
    | 4 => obtain ⟨c, h⟩ := aoc_of (hts _ lk241); exact ⟨c, fun _ => h⟩
    | 5 => obtain ⟨c, h⟩ := aoc_of (hts _ lk389); exact ⟨c, fun _ => h⟩
    | 6 => obtain ⟨c, h⟩ := aov_of (hts _ lk369); exact ⟨c, fun _ => h⟩
    | 7 => obtain ⟨c, h⟩ := aov_of (hts _ lk221); exact ⟨c, fun _ => h⟩
    | k + 8 => exact ⟨0, fun q => by omega⟩
  obtain ⟨cT', hcT⟩ := Classical.axiomOfChoice hty
  let G : GX := (l, s, (dC, dI), cT', adK, adV)
  have hKs : va_K (gD G) classes (tysG G) (gs G) := by
    refine ⟨fun ci q hq => ?_, fun k q hk => ?_⟩
    · have hlt : ci < 13 := (List.getElem?_eq_some_iff.mp hq).1
      rw [cls_ok ci hlt] at hq
      cases hq
      exact hdI ci hlt
    · have hlt : k < 8 := by
        have := (List.getElem?_eq_some_iff.mp hk).1
        simpa [tysG] using this
      rw [tysG_at hlt] at hk
      cases hk
      exact hcT k hlt
  have hZ2 : ∃ v : Value, v.category = 1 ∧ va_Z "jdk/internal/util/Preconditions" "SIOOBE_FORMATTER" "Ljava/util/function/BiFunction;" v (AG G) (gs G) (gs G).heap := by
    rcases va_Zqof (A := fun q => s.heap.size ≤ q) (hts _ (rr521.1)) (hts _ rr18.1) (nar_isref hgv) hA with h | ⟨t, h⟩
    · exact ⟨.null, rfl, h⟩
    · exact ⟨.ref t, rfl, h⟩
  have hGOK : GOK G := ⟨hKs, hvS, hts _ lk241, hts _ lk389, hts _ lk369, hts _ lk221, va_Zof (hts _ rr505.1) (hts _ rr16.1) (va_eqt (nar_compact hgv)) hA, hZ2⟩
  have hKn : Kn G s := by
    refine ⟨Vm.Alike.refl _, fun q hq => va_Nw.of rfl (hts _ ?_), fun i hi o ho => ?_, fun q hq => rfl⟩
    · exact nest_in q hq
    · match i, hi with
      | 0, _ => cases ho; exact vk_R.of (hts _ rr495.1) (hvE 0 (by decide))
      | 1, _ => cases ho; exact vk_R.of (hts _ rr544.1) (hvE 1 (by decide))
      | 2, _ => cases ho; exact vk_R.of (hts _ rr1456.1) (hvE 2 (by decide))
      | 3, _ => cases ho; exact vk_R.of (hts _ rr1462.1) (hvE 3 (by decide))
  let E : EV := (fun _ _ => none, 0, fun k => if k < 1000 then 0 else if k % 2 = 0 then adK ((k - 1000) / 2) else adV ((k - 1000) / 2))
  have hz : Zr P0 E := ⟨fun k _ j => ⟨rfl, rfl, rfl⟩, fun k j r h => by cases h⟩
  have hR : Rep G P0 E s.heap := by
    refine ⟨fun k q h => ?_, ⟨fun i j p q h => ?_, fun k q h => ?_⟩, fun q _ => rfl, fun i hi => ?_⟩
    · have h : ([] : va_W)[k]? = some q := h
      simp at h
    · have h : ([] : va_W)[i]? = some p := h
      simp at h
    · have h : ([] : va_W)[k]? = some q := h
      simp at h
    · refine ⟨?_, ?_⟩
      · show (if 1000 + 2 * i < 1000 then 0 else if (1000 + 2 * i) % 2 = 0 then adK ((1000 + 2 * i - 1000) / 2) else adV ((1000 + 2 * i - 1000) / 2)) = adK i
        rw [if_neg (by omega), if_pos (by omega), show (1000 + 2 * i - 1000) / 2 = i by omega]
      · show (if 1001 + 2 * i < 1000 then 0 else if (1001 + 2 * i) % 2 = 0 then adK ((1001 + 2 * i - 1000) / 2) else adV ((1001 + 2 * i - 1000) / 2)) = adV i
        rw [if_neg (by omega), if_neg (by omega), show (1001 + 2 * i - 1000) / 2 = i by omega]
  obtain ⟨Pz, hmath⟩ := whole_math xs L hL
  let Q : QT := fun r _ _ => r = some (.int 1)
  have go : Go G code "YawnRouteLaw" 4 (some .boolean) false 2000 0 130 Q 0 [(0, .ref b)] [] P0 E := by
    refine Go.newZ 11 (by decide) rfl (Nat.le_of_ble_eq_true rfl) hz lk23 lk24 lk1 (Nat.le_of_ble_eq_true rfl) (by decide +kernel) (fun E1 r1 n1 a1 z1 => ?_)
    replace n1 : E1.2.1 = 1 := n1
    show Go G code "YawnRouteLaw" 4 (some .boolean) false 2000 0 130 Q _ _ [.ref (ad E1 0)] P0 E1
    refine Go.dup (by decide +kernel) rfl ?_
    refine Go.callI (Qc := CQ 109 (PF_Yr_init P0) (RF_Yr_init E1.1) E1) 1999 0 _ [] 109 (by rw [n1]; exact e_Yr_init hGOK 1999 (by decide) P0 E1 z1 n1) ⟨by rw [n1]; decide, by decide⟩ (fun _ _ _ q => q.2.2.2.1) lk25 lk26 lk1 lk27 rfl ⟨by decide, by decide, by decide +kernel⟩ rfl (by decide) (by decide) (Nat.le_of_ble_eq_true rfl) (by decide +kernel) _ rfl (fun _ P1 E2 q => ?_)
    obtain ⟨e1, e2, r2, n2, z2, a2⟩ := q
    subst e1
    rw [e2] at z2 ⊢
    clear e2
    dsimp only [Option.toList, List.nil_append]
    rw [n1] at a2
    rw [← a2 0 (Or.inl (by decide))]
    refine Go.astore_n (k := 1) (i := 1) [(1, .ref (ad E2 0)), (0, .ref b)] (by decide +kernel) rfl (by decide) rfl ?_
    refine Go.newZ 12 (by decide) (by rw [n2]; exact sh109) (by rw [n2]; decide) z2 lk1321 lk1322 lk14 (by rw [n2]; decide) (by decide +kernel) (fun E3 r3 n3 a3 z3 => ?_)
    rw [n2] at n3 a3 ⊢
    replace n3 : E3.2.1 = 110 := n3
    rw [← a3 0 (Or.inl (by decide))]
    refine Go.dup (by decide +kernel) rfl ?_
    refine Go.callI (Qc := CQ 130 (PF_Mo_init (PF_Yr_init P0)) (RF_Mo_init E3.1) E3) 1999 0 _ [] 130 (by rw [n3]; exact e_Mo_init hGOK 1999 (by decide) (PF_Yr_init P0) E3 z3 n3 (by rw [r3, r2, r1])) ⟨by rw [n3]; decide, by decide⟩ (fun _ _ _ q => q.2.2.2.1) lk1323 lk1324 lk14 lk1325 rfl ⟨by decide, by decide, by decide +kernel⟩ rfl (by decide) (by decide) (Nat.le_of_ble_eq_true rfl) (by decide +kernel) _ rfl (fun _ P2 E4 q => ?_)
    obtain ⟨e1, e2, r4, n4, z4, a4⟩ := q
    subst e1
    rw [e2] at z4 ⊢
    clear e2
    dsimp only [Option.toList, List.nil_append]
    rw [n3] at a4
    rw [← a4 0 (Or.inl (by decide)), ← a4 109 (Or.inl (by decide))]
    refine Go.astore_n (k := 2) (i := 2) [(2, .ref (ad E4 109)), (1, .ref (ad E4 0)), (0, .ref b)] (by decide +kernel) rfl (by decide) rfl ?_
    refine Go.iconst (n := 0) (0 : Int32) (by decide +kernel) rfl ?_
    refine Go.istore_n (k := 3) (i := 3) [(3, .int (0 : Int32)), (2, .ref (ad E4 109)), (1, .ref (ad E4 0)), (0, .ref b)] (by decide +kernel) rfl (by decide) rfl ?_
    refine Go.sub [3, 2, 1, 0] [(0, .ref b), (1, .ref (ad E4 0)), (2, .ref (ad E4 109)), (3, .int (0 : Int32))] rfl ?_
    have hE0 : E0 E4 := ⟨by rw [r4]; exact RF_full (by rw [r3, r2, r1]), n4⟩
    have ht := t_l_La_law_18 hGOK hE0 2000 (by decide) (Q := Q) b xs L hX hbl FU (0 : Int32) Pinit ⟨_, hmath, rfl⟩
    exact ht
  have hW := go p e s m #[Value.ref b] below meth c s.heap [] _ ⟨hx, hb, hml, hr, hlocks, (fun h => by cases h), hown, fun w hw => hts w (List.mem_filter.mp hw).1, hKn, hGOK⟩ va_S.rf hR (lv_entry [.ref b] (Nat.le_of_ble_eq_true rfl)) (Nat.zero_le _)
  rw [lg_entry_eq]
  refine W.room (fun pl h => room_mono ?_ ?_ ?_ ?_ h) (fun t h => ?_) hW
  · show 2000 ≤ 2048
    decide
  · show 130 - 0 ≤ 600000
    decide
  · show tot 130 - tot 0 ≤ 7302250
    decide +kernel
  · show 40 * 2000 ≤ 84000
    decide
  · obtain ⟨o, h1, h2, ⟨⟨r, P', E', ho, hq, -⟩, -⟩, Lc, hF, hfree⟩ := h
    subst ho
    have hq : r = some (.int 1) := hq
    subst hq
    refine ⟨_, h1, h2, rfl, hF.1, hF.2.1, ?_⟩
    exact hF.2.2.weaken (fun y hy hlt => absurd hlt (Nat.not_lt.mpr (hfree y hy))) (by decide) (by
      have h9 : tot 130 - tot 0 ≤ 7302250 := by decide +kernel
      exact h9)
-- ===== YOUR PART ENDS =====
set_option maxHeartbeats 4000000 in
theorem lw_walk (l : Launch) (hflags : l.flags = flags0) (b : Addr) (xs : List Int32) : MetFree l x (headSpec (Jvm.Cond.code x code maxLocals ret :: tables_1) room_1) (lw_P b xs) (fun _ _ _ _ _ => True) lw_Q := by
  refine MetFree.of_bodyS (code := code) (maxLocals := maxLocals) (ret := ret) (by decide) ?_ ?_
  · intro args s m h hn
    obtain ⟨meth, c, h1, h2, h3, h4, h5, h6, -, -⟩ := Cond.code_spec hn (atoms_spec (ws := Jvm.Cond.code x code maxLocals ret :: tables_1) h _ List.mem_cons_self)
    exact ⟨meth, c, h1, h2, h3, h4, h5, h6⟩
  · intro p e s m args below meth c s₁ B hml0 hP _
    obtain ⟨rfl, hx, hbd, hgv⟩ := hP
    obtain ⟨scr, harrAt, hlist, hof, hsmall⟩ := hx
    obtain ⟨hcb, hkn, -, -⟩ := State.arrayAt?_spec harrAt
    have hown : s.vm.findClass R_law = some m.cls := findClass_of_methodNamed B.named
    have hts0 : ∀ c ∈ (Jvm.Cond.code x code maxLocals ret :: tables_1), c.before #[Value.ref b] s = true := atoms_spec (ws := Jvm.Cond.code x code maxLocals ret :: tables_1) B.pre
    have hts : ∀ w ∈ lw_tbl, w.before #[Value.ref b] s = true := k2_hts_sels lw_privs (fun w hw => hts0 w (List.mem_cons_of_mem _ hw)) lw_privs_ok
    have hml : c.maxLocals = 4 := B.maxLocals_eq (hts0 _ List.mem_cons_self)
    have X₀ : Stand p l e room_1 s m #[Value.ref b] below meth c s₁ [] 0 0 := Stand.of_body B
    have hh0 : s₁.heap = s.heap := by rw [B.state]; rfl
    have hsz : scr.slots.size = xs.length := by rw [← Array.length_toList, hlist, List.length_map]
    have hval : ∀ j : Nat, j < xs.length → scr.slots[j]? = some (.int (xs.getD j 0)) := fun j hj => by
      rw [← Array.getElem?_toList, hlist]
      simp [hj]
    have hbl : b < s.heap.size := (Array.getElem?_eq_some_iff.mp hcb).1
    have hX : va_X b xs.length (fun j => xs.getD j 0) s s.heap := ⟨scr, hcb, hof, hkn, hsz, hval⟩
    have K : W p l e room_1 s m #[Value.ref b] below meth c s₁.heap [] 0 0 (lw_Z below #[Value.ref b] s) (entryFrame m ([Value.ref b] : List Value).toArray 4) := by
      rw [hh0]
      exact whole_start l hflags hbd ⟨B.exec, B.bytes, B.returns, hml, hown, hts, hX, hbl, B.notSynchronized, hgv⟩
    obtain ⟨t, a1, o, b1, b2, b3⟩ := K s₁ rfl X₀
    exact ⟨t, o, a1, b1, b2, b3⟩
theorem lw_pre_spec {args : Array Value} {s : State} (h : (Jvm.Cond.and given_1 narrow_1).before args s = true) (hr : rest_1_c.before args s = true) : ∃ (b : Addr) (xs : List Int32), lw_P b xs args s := by
  have hs := flat_of_before _ h
  have hq := flat_of_before _ hr
  have hc : (Cond.count 1).before args s = true := hs _ (by decide +kernel)
  have harr : (Cond.arrayOf (.arg 0) .int).before args s = true := hs _ (by decide +kernel)
  have hle : (Cond.le (.length (.arg 0)) (.int 3072)).before args s = true := hs _ (by decide +kernel)
  have hlen : (Cond.isInt (.length (.arg 0))).before args s = true := hq _ (by decide +kernel)
  have hall : (Cond.all (.arg 0) (.isInt (.elem (.arg 0) (.index 0)))).before args s = true := hq _ (by decide +kernel)
  obtain ⟨b, xs, hb, hx⟩ := State.ints_of_pre rfl harr hlen hall
  have hsm : xs.length < 2 ^ 31 := hx.choose_spec.2.2.2
  have hev : (Term.length (.arg 0)).eval args s none [] s = some (.int xs.length.toInt32) := hx.length_eval hb
  have hv := Cond.le_ints hev (show (Term.int 3072).eval args s none [] s = some (.int 3072) from rfl)
  have hd : xs.length.toInt32 ≤ 3072 := by
    simpa [Cond.before, Cond.holds, hv] using hle
  have hN : xs.length ≤ 3072 := (Int32.ofNat_le_ofNat hsm (by decide)).mp (show Int32.ofNat xs.length ≤ Int32.ofNat 3072 from hd)
  exact ⟨b, xs, Cond.one_arg hc (show args[0]? = some (.ref b) from hb), hx, hN, h⟩
theorem lw_comes (l : Launch) (hflags : l.flags = flags0) : Comes l x (Jvm.Cond.code x code maxLocals ret :: tables_1) room_1 (fun tb e args s => Calls_1 tb e args s ∧ rest_1 tb e args s ∧ Pre_1 tb e args s)
    (fun _ _ args s o t => lw_Q args s o t) := by
  intro p e ha hc hk s m args below hf hfit hheap happ hpre
  obtain ⟨b, xs, hP⟩ := lw_pre_spec hpre.2.2 hpre.2.1
  obtain ⟨k, o, h1, h2, h3, hQ⟩ := lw_walk l hflags b xs p e ha hc hk s m args below hf ((Spec.applies_iff_loose hf).mp happ).1 hP trivial
  exact ⟨k, o, h1, h2, h3, hQ⟩
theorem lw_frame {s t : State} {o : Outcome} {args : Array Value} (h : Framed s o t [] 600000 7302250) :
    Framed s o t (fieldLocs frame_1_writes args s ++ arrayLocs frame_1_arrays args s ++ staticLocs frame_1_statics s) 600000 7302250 := h
theorem lw_limb (L : Cond) (hL : ∀ (args : Array Value) (s t : State), L.after args s (.returned (some (.int 1))) t = true) :
    ArmFor flags0 classFile x code maxLocals ret World_1 tables_1 room_1 Calls_1 rest_1 Pre_1
      (fun tb e a s o t => postC L tb e a s o t ∧ Framed s o t (fieldLocs frame_1_writes a s ++ arrayLocs frame_1_arrays a s ++ staticLocs frame_1_statics s) 600000 7302250) := by
  intro l hflags _ _ p e ha hc hk s m args below hf hfit hheap happ hpre
  obtain ⟨k, o, h1, h2, h3, rfl, hF⟩ := lw_comes l hflags p e ha hc hk s m args below hf hfit hheap happ hpre
  exact ⟨k, _, h1, h2, h3, hL args s _, lw_frame hF⟩
theorem i_vc : Claimed_1_1 ∧ Claimed_1_2 := ⟨lw_limb limb_1_1 (fun args s t => by simp [limb_1_1, Cond.after, Cond.holds, Cond.value]), lw_limb limb_1_2 (fun args s t => Cond.after_iff.mpr (by
  first | (rw [show limb_1_2 = Cond.eq .result (.int 1) from rfl, Cond.eq_ints (x := 1) (y := 1) rfl rfl]; simp; done) | (simp [limb_1_2, Cond.value, Term.eval]; done)))⟩
