section
-- ===== PART A: goes FIRST, ahead of the names: the tables' words, and 'selects' of the private methods out of them =====
/-- a private method of a class that the tables say can be made, by its rows of tables_1 -/
def lw_okq (q : MethodName × Nat) : Prop := (q.1.cls ≠ "java/lang/invoke/MethodHandle" ∧ q.1.cls ≠ "java/lang/invoke/VarHandle") ∧ Cond.instantiable q.1.cls q.2 ∈ tables_1 ∧ Cond.privateMethod q.1 ∈ tables_1 ∧ Cond.instanceMethod q.1 ∈ tables_1
theorem lw_p0 : lw_okq (⟨"java/lang/Throwable", "fillInStackTrace", "(I)Ljava/lang/Throwable;"⟩, 6) := ⟨⟨by decide +kernel, by decide +kernel⟩, List.mem_of_getElem? (i := 221) (by decide +kernel), List.mem_of_getElem? (i := 219) (by decide +kernel), List.mem_of_getElem? (i := 220) (by decide +kernel)⟩
theorem lw_p1 : lw_okq (⟨"WorkHall", "known", "(I)LWorkHall$Job;"⟩, 12) := ⟨⟨by decide +kernel, by decide +kernel⟩, List.mem_of_getElem? (i := 19) (by decide +kernel), List.mem_of_getElem? (i := 320) (by decide +kernel), List.mem_of_getElem? (i := 321) (by decide +kernel)⟩
theorem lw_p2 : lw_okq (⟨"WorkHall", "find", "(I)LWorkHall$Job;"⟩, 12) := ⟨⟨by decide +kernel, by decide +kernel⟩, List.mem_of_getElem? (i := 19) (by decide +kernel), List.mem_of_getElem? (i := 324) (by decide +kernel), List.mem_of_getElem? (i := 325) (by decide +kernel)⟩
theorem lw_p3 : lw_okq (⟨"WorkHall", "admit", "(LWorkHall$Job;I)V"⟩, 12) := ⟨⟨by decide +kernel, by decide +kernel⟩, List.mem_of_getElem? (i := 19) (by decide +kernel), List.mem_of_getElem? (i := 345) (by decide +kernel), List.mem_of_getElem? (i := 346) (by decide +kernel)⟩
theorem lw_p4 : lw_okq (⟨"WorkHall", "turnAway", "(LWorkHall$Job;I)V"⟩, 12) := ⟨⟨by decide +kernel, by decide +kernel⟩, List.mem_of_getElem? (i := 19) (by decide +kernel), List.mem_of_getElem? (i := 375) (by decide +kernel), List.mem_of_getElem? (i := 376) (by decide +kernel)⟩
theorem lw_p5 : lw_okq (⟨"WorkHall", "performAndEnd", "(LWorkHall$Job;I)V"⟩, 12) := ⟨⟨by decide +kernel, by decide +kernel⟩, List.mem_of_getElem? (i := 19) (by decide +kernel), List.mem_of_getElem? (i := 383) (by decide +kernel), List.mem_of_getElem? (i := 384) (by decide +kernel)⟩
theorem lw_p6 : lw_okq (⟨"WorkHall", "sum", "(LWorkHall$Job;)V"⟩, 12) := ⟨⟨by decide +kernel, by decide +kernel⟩, List.mem_of_getElem? (i := 19) (by decide +kernel), List.mem_of_getElem? (i := 406) (by decide +kernel), List.mem_of_getElem? (i := 407) (by decide +kernel)⟩
theorem lw_p7 : lw_okq (⟨"WorkHall", "fork", "(LWorkHall$Job;I)V"⟩, 12) := ⟨⟨by decide +kernel, by decide +kernel⟩, List.mem_of_getElem? (i := 19) (by decide +kernel), List.mem_of_getElem? (i := 411) (by decide +kernel), List.mem_of_getElem? (i := 412) (by decide +kernel)⟩
theorem lw_p8 : lw_okq (⟨"WorkHall", "runStep", "()V"⟩, 12) := ⟨⟨by decide +kernel, by decide +kernel⟩, List.mem_of_getElem? (i := 19) (by decide +kernel), List.mem_of_getElem? (i := 451) (by decide +kernel), List.mem_of_getElem? (i := 452) (by decide +kernel)⟩
theorem lw_p9 : lw_okq (⟨"WorkHall", "staysAfterTurn", "(I)Z"⟩, 12) := ⟨⟨by decide +kernel, by decide +kernel⟩, List.mem_of_getElem? (i := 19) (by decide +kernel), List.mem_of_getElem? (i := 455) (by decide +kernel), List.mem_of_getElem? (i := 456) (by decide +kernel)⟩
theorem lw_p10 : lw_okq (⟨"WorkHall", "replaceWorker", "(I)V"⟩, 12) := ⟨⟨by decide +kernel, by decide +kernel⟩, List.mem_of_getElem? (i := 19) (by decide +kernel), List.mem_of_getElem? (i := 460) (by decide +kernel), List.mem_of_getElem? (i := 461) (by decide +kernel)⟩
theorem lw_p11 : lw_okq (⟨"WorkHall", "freeWorker", "(LWorkHall$Worker;)V"⟩, 12) := ⟨⟨by decide +kernel, by decide +kernel⟩, List.mem_of_getElem? (i := 19) (by decide +kernel), List.mem_of_getElem? (i := 473) (by decide +kernel), List.mem_of_getElem? (i := 474) (by decide +kernel)⟩
theorem lw_p12 : lw_okq (⟨"WorkHall", "endIfSettled", "()V"⟩, 12) := ⟨⟨by decide +kernel, by decide +kernel⟩, List.mem_of_getElem? (i := 19) (by decide +kernel), List.mem_of_getElem? (i := 481) (by decide +kernel), List.mem_of_getElem? (i := 482) (by decide +kernel)⟩
theorem lw_p13 : lw_okq (⟨"WorkHall", "fire", "(I)V"⟩, 12) := ⟨⟨by decide +kernel, by decide +kernel⟩, List.mem_of_getElem? (i := 19) (by decide +kernel), List.mem_of_getElem? (i := 577) (by decide +kernel), List.mem_of_getElem? (i := 578) (by decide +kernel)⟩
theorem lw_p14 : lw_okq (⟨"WorkHall", "dismissLongIdle", "()V"⟩, 12) := ⟨⟨by decide +kernel, by decide +kernel⟩, List.mem_of_getElem? (i := 19) (by decide +kernel), List.mem_of_getElem? (i := 585) (by decide +kernel), List.mem_of_getElem? (i := 586) (by decide +kernel)⟩
theorem lw_p15 : lw_okq (⟨"WorkHall", "placeOf", "(LWorkHall$Job;)I"⟩, 12) := ⟨⟨by decide +kernel, by decide +kernel⟩, List.mem_of_getElem? (i := 19) (by decide +kernel), List.mem_of_getElem? (i := 614) (by decide +kernel), List.mem_of_getElem? (i := 615) (by decide +kernel)⟩
def lw_privs_1 : List (MethodName × Nat) := [(⟨"java/lang/Throwable", "fillInStackTrace", "(I)Ljava/lang/Throwable;"⟩, 6), (⟨"WorkHall", "known", "(I)LWorkHall$Job;"⟩, 12), (⟨"WorkHall", "find", "(I)LWorkHall$Job;"⟩, 12), (⟨"WorkHall", "admit", "(LWorkHall$Job;I)V"⟩, 12), (⟨"WorkHall", "turnAway", "(LWorkHall$Job;I)V"⟩, 12), (⟨"WorkHall", "performAndEnd", "(LWorkHall$Job;I)V"⟩, 12), (⟨"WorkHall", "sum", "(LWorkHall$Job;)V"⟩, 12), (⟨"WorkHall", "fork", "(LWorkHall$Job;I)V"⟩, 12), (⟨"WorkHall", "runStep", "()V"⟩, 12), (⟨"WorkHall", "staysAfterTurn", "(I)Z"⟩, 12), (⟨"WorkHall", "replaceWorker", "(I)V"⟩, 12), (⟨"WorkHall", "freeWorker", "(LWorkHall$Worker;)V"⟩, 12), (⟨"WorkHall", "endIfSettled", "()V"⟩, 12), (⟨"WorkHall", "fire", "(I)V"⟩, 12), (⟨"WorkHall", "dismissLongIdle", "()V"⟩, 12), (⟨"WorkHall", "placeOf", "(LWorkHall$Job;)I"⟩, 12)]
theorem lw_r1 : ∀ q ∈ lw_privs_1, lw_okq q := List.forall_mem_cons.mpr ⟨lw_p0, List.forall_mem_cons.mpr ⟨lw_p1, List.forall_mem_cons.mpr ⟨lw_p2, List.forall_mem_cons.mpr ⟨lw_p3, List.forall_mem_cons.mpr ⟨lw_p4, List.forall_mem_cons.mpr ⟨lw_p5, List.forall_mem_cons.mpr ⟨lw_p6, List.forall_mem_cons.mpr ⟨lw_p7, List.forall_mem_cons.mpr ⟨lw_p8, List.forall_mem_cons.mpr ⟨lw_p9, List.forall_mem_cons.mpr ⟨lw_p10, List.forall_mem_cons.mpr ⟨lw_p11, List.forall_mem_cons.mpr ⟨lw_p12, List.forall_mem_cons.mpr ⟨lw_p13, List.forall_mem_cons.mpr ⟨lw_p14, List.forall_mem_cons.mpr ⟨lw_p15, fun _ h => absurd h List.not_mem_nil⟩⟩⟩⟩⟩⟩⟩⟩⟩⟩⟩⟩⟩⟩⟩⟩
theorem lw_p16 : lw_okq (⟨"WorkHallModel", "clamp", "(III)I"⟩, 36) := ⟨⟨by decide +kernel, by decide +kernel⟩, List.mem_of_getElem? (i := 649) (by decide +kernel), List.mem_of_getElem? (i := 655) (by decide +kernel), List.mem_of_getElem? (i := 656) (by decide +kernel)⟩
theorem lw_p17 : lw_okq (⟨"WorkHallModel", "out", "(II)Z"⟩, 36) := ⟨⟨by decide +kernel, by decide +kernel⟩, List.mem_of_getElem? (i := 649) (by decide +kernel), List.mem_of_getElem? (i := 777) (by decide +kernel), List.mem_of_getElem? (i := 778) (by decide +kernel)⟩
theorem lw_p18 : lw_okq (⟨"WorkHallModel", "fail", "(I)I"⟩, 36) := ⟨⟨by decide +kernel, by decide +kernel⟩, List.mem_of_getElem? (i := 649) (by decide +kernel), List.mem_of_getElem? (i := 781) (by decide +kernel), List.mem_of_getElem? (i := 782) (by decide +kernel)⟩
theorem lw_p19 : lw_okq (⟨"WorkHallModel", "end", "(I)I"⟩, 36) := ⟨⟨by decide +kernel, by decide +kernel⟩, List.mem_of_getElem? (i := 649) (by decide +kernel), List.mem_of_getElem? (i := 785) (by decide +kernel), List.mem_of_getElem? (i := 786) (by decide +kernel)⟩
theorem lw_p20 : lw_okq (⟨"WorkHallModel", "countBusy", "()I"⟩, 36) := ⟨⟨by decide +kernel, by decide +kernel⟩, List.mem_of_getElem? (i := 649) (by decide +kernel), List.mem_of_getElem? (i := 789) (by decide +kernel), List.mem_of_getElem? (i := 790) (by decide +kernel)⟩
theorem lw_p21 : lw_okq (⟨"WorkHallModel", "submitNow", "(I)V"⟩, 36) := ⟨⟨by decide +kernel, by decide +kernel⟩, List.mem_of_getElem? (i := 649) (by decide +kernel), List.mem_of_getElem? (i := 797) (by decide +kernel), List.mem_of_getElem? (i := 798) (by decide +kernel)⟩
theorem lw_p22 : lw_okq (⟨"WorkHallModel", "place", "(I)Z"⟩, 36) := ⟨⟨by decide +kernel, by decide +kernel⟩, List.mem_of_getElem? (i := 649) (by decide +kernel), List.mem_of_getElem? (i := 801) (by decide +kernel), List.mem_of_getElem? (i := 802) (by decide +kernel)⟩
theorem lw_p23 : lw_okq (⟨"WorkHallModel", "newWorker", "(I)V"⟩, 36) := ⟨⟨by decide +kernel, by decide +kernel⟩, List.mem_of_getElem? (i := 649) (by decide +kernel), List.mem_of_getElem? (i := 805) (by decide +kernel), List.mem_of_getElem? (i := 806) (by decide +kernel)⟩
theorem lw_p24 : lw_okq (⟨"WorkHallModel", "work", "(II)V"⟩, 36) := ⟨⟨by decide +kernel, by decide +kernel⟩, List.mem_of_getElem? (i := 649) (by decide +kernel), List.mem_of_getElem? (i := 809) (by decide +kernel), List.mem_of_getElem? (i := 810) (by decide +kernel)⟩
theorem lw_p25 : lw_okq (⟨"WorkHallModel", "enqueue", "(I)V"⟩, 36) := ⟨⟨by decide +kernel, by decide +kernel⟩, List.mem_of_getElem? (i := 649) (by decide +kernel), List.mem_of_getElem? (i := 813) (by decide +kernel), List.mem_of_getElem? (i := 814) (by decide +kernel)⟩
theorem lw_p26 : lw_okq (⟨"WorkHallModel", "dequeue", "(I)I"⟩, 36) := ⟨⟨by decide +kernel, by decide +kernel⟩, List.mem_of_getElem? (i := 649) (by decide +kernel), List.mem_of_getElem? (i := 817) (by decide +kernel), List.mem_of_getElem? (i := 818) (by decide +kernel)⟩
theorem lw_p27 : lw_okq (⟨"WorkHallModel", "perform", "(I)V"⟩, 36) := ⟨⟨by decide +kernel, by decide +kernel⟩, List.mem_of_getElem? (i := 649) (by decide +kernel), List.mem_of_getElem? (i := 821) (by decide +kernel), List.mem_of_getElem? (i := 822) (by decide +kernel)⟩
theorem lw_p28 : lw_okq (⟨"WorkHallModel", "push", "(I)V"⟩, 36) := ⟨⟨by decide +kernel, by decide +kernel⟩, List.mem_of_getElem? (i := 649) (by decide +kernel), List.mem_of_getElem? (i := 825) (by decide +kernel), List.mem_of_getElem? (i := 826) (by decide +kernel)⟩
theorem lw_p29 : lw_okq (⟨"WorkHallModel", "performOne", "(I)V"⟩, 36) := ⟨⟨by decide +kernel, by decide +kernel⟩, List.mem_of_getElem? (i := 649) (by decide +kernel), List.mem_of_getElem? (i := 829) (by decide +kernel), List.mem_of_getElem? (i := 830) (by decide +kernel)⟩
theorem lw_p30 : lw_okq (⟨"WorkHallModel", "done", "(II)V"⟩, 36) := ⟨⟨by decide +kernel, by decide +kernel⟩, List.mem_of_getElem? (i := 649) (by decide +kernel), List.mem_of_getElem? (i := 833) (by decide +kernel), List.mem_of_getElem? (i := 834) (by decide +kernel)⟩
theorem lw_p31 : lw_okq (⟨"WorkHallModel", "broke", "(II)V"⟩, 36) := ⟨⟨by decide +kernel, by decide +kernel⟩, List.mem_of_getElem? (i := 649) (by decide +kernel), List.mem_of_getElem? (i := 837) (by decide +kernel), List.mem_of_getElem? (i := 838) (by decide +kernel)⟩
def lw_privs_2 : List (MethodName × Nat) := [(⟨"WorkHallModel", "clamp", "(III)I"⟩, 36), (⟨"WorkHallModel", "out", "(II)Z"⟩, 36), (⟨"WorkHallModel", "fail", "(I)I"⟩, 36), (⟨"WorkHallModel", "end", "(I)I"⟩, 36), (⟨"WorkHallModel", "countBusy", "()I"⟩, 36), (⟨"WorkHallModel", "submitNow", "(I)V"⟩, 36), (⟨"WorkHallModel", "place", "(I)Z"⟩, 36), (⟨"WorkHallModel", "newWorker", "(I)V"⟩, 36), (⟨"WorkHallModel", "work", "(II)V"⟩, 36), (⟨"WorkHallModel", "enqueue", "(I)V"⟩, 36), (⟨"WorkHallModel", "dequeue", "(I)I"⟩, 36), (⟨"WorkHallModel", "perform", "(I)V"⟩, 36), (⟨"WorkHallModel", "push", "(I)V"⟩, 36), (⟨"WorkHallModel", "performOne", "(I)V"⟩, 36), (⟨"WorkHallModel", "done", "(II)V"⟩, 36), (⟨"WorkHallModel", "broke", "(II)V"⟩, 36)]
theorem lw_r2 : ∀ q ∈ lw_privs_2, lw_okq q := List.forall_mem_cons.mpr ⟨lw_p16, List.forall_mem_cons.mpr ⟨lw_p17, List.forall_mem_cons.mpr ⟨lw_p18, List.forall_mem_cons.mpr ⟨lw_p19, List.forall_mem_cons.mpr ⟨lw_p20, List.forall_mem_cons.mpr ⟨lw_p21, List.forall_mem_cons.mpr ⟨lw_p22, List.forall_mem_cons.mpr ⟨lw_p23, List.forall_mem_cons.mpr ⟨lw_p24, List.forall_mem_cons.mpr ⟨lw_p25, List.forall_mem_cons.mpr ⟨lw_p26, List.forall_mem_cons.mpr ⟨lw_p27, List.forall_mem_cons.mpr ⟨lw_p28, List.forall_mem_cons.mpr ⟨lw_p29, List.forall_mem_cons.mpr ⟨lw_p30, List.forall_mem_cons.mpr ⟨lw_p31, fun _ h => absurd h List.not_mem_nil⟩⟩⟩⟩⟩⟩⟩⟩⟩⟩⟩⟩⟩⟩⟩⟩
theorem lw_p32 : lw_okq (⟨"WorkHallModel", "isDone", "(I)Z"⟩, 36) := ⟨⟨by decide +kernel, by decide +kernel⟩, List.mem_of_getElem? (i := 649) (by decide +kernel), List.mem_of_getElem? (i := 841) (by decide +kernel), List.mem_of_getElem? (i := 842) (by decide +kernel)⟩
theorem lw_p33 : lw_okq (⟨"WorkHallModel", "fork", "(II)V"⟩, 36) := ⟨⟨by decide +kernel, by decide +kernel⟩, List.mem_of_getElem? (i := 649) (by decide +kernel), List.mem_of_getElem? (i := 845) (by decide +kernel), List.mem_of_getElem? (i := 846) (by decide +kernel)⟩
theorem lw_p34 : lw_okq (⟨"WorkHallModel", "turn", "(I)V"⟩, 36) := ⟨⟨by decide +kernel, by decide +kernel⟩, List.mem_of_getElem? (i := 649) (by decide +kernel), List.mem_of_getElem? (i := 857) (by decide +kernel), List.mem_of_getElem? (i := 858) (by decide +kernel)⟩
theorem lw_p35 : lw_okq (⟨"WorkHallModel", "place0", "(I)I"⟩, 36) := ⟨⟨by decide +kernel, by decide +kernel⟩, List.mem_of_getElem? (i := 649) (by decide +kernel), List.mem_of_getElem? (i := 861) (by decide +kernel), List.mem_of_getElem? (i := 862) (by decide +kernel)⟩
theorem lw_p36 : lw_okq (⟨"WorkHallModel", "removeWorker", "(I)V"⟩, 36) := ⟨⟨by decide +kernel, by decide +kernel⟩, List.mem_of_getElem? (i := 649) (by decide +kernel), List.mem_of_getElem? (i := 865) (by decide +kernel), List.mem_of_getElem? (i := 866) (by decide +kernel)⟩
theorem lw_p37 : lw_okq (⟨"WorkHallModel", "fetch", "()I"⟩, 36) := ⟨⟨by decide +kernel, by decide +kernel⟩, List.mem_of_getElem? (i := 649) (by decide +kernel), List.mem_of_getElem? (i := 869) (by decide +kernel), List.mem_of_getElem? (i := 870) (by decide +kernel)⟩
theorem lw_p38 : lw_okq (⟨"WorkHallModel", "takeNext", "(I)V"⟩, 36) := ⟨⟨by decide +kernel, by decide +kernel⟩, List.mem_of_getElem? (i := 649) (by decide +kernel), List.mem_of_getElem? (i := 873) (by decide +kernel), List.mem_of_getElem? (i := 874) (by decide +kernel)⟩
theorem lw_p39 : lw_okq (⟨"WorkHallModel", "rest", "(I)V"⟩, 36) := ⟨⟨by decide +kernel, by decide +kernel⟩, List.mem_of_getElem? (i := 649) (by decide +kernel), List.mem_of_getElem? (i := 877) (by decide +kernel), List.mem_of_getElem? (i := 878) (by decide +kernel)⟩
theorem lw_p40 : lw_okq (⟨"WorkHallModel", "placeInQueue", "(I)I"⟩, 36) := ⟨⟨by decide +kernel, by decide +kernel⟩, List.mem_of_getElem? (i := 649) (by decide +kernel), List.mem_of_getElem? (i := 885) (by decide +kernel), List.mem_of_getElem? (i := 886) (by decide +kernel)⟩
theorem lw_p41 : lw_okq (⟨"WorkHallModel", "workerOf", "(I)I"⟩, 36) := ⟨⟨by decide +kernel, by decide +kernel⟩, List.mem_of_getElem? (i := 649) (by decide +kernel), List.mem_of_getElem? (i := 889) (by decide +kernel), List.mem_of_getElem? (i := 890) (by decide +kernel)⟩
theorem lw_p42 : lw_okq (⟨"WorkHallModel", "put", "(IDD)V"⟩, 36) := ⟨⟨by decide +kernel, by decide +kernel⟩, List.mem_of_getElem? (i := 649) (by decide +kernel), List.mem_of_getElem? (i := 902) (by decide +kernel), List.mem_of_getElem? (i := 903) (by decide +kernel)⟩
theorem lw_p43 : lw_okq (⟨"WorkHallModel", "first", "()I"⟩, 36) := ⟨⟨by decide +kernel, by decide +kernel⟩, List.mem_of_getElem? (i := 649) (by decide +kernel), List.mem_of_getElem? (i := 911) (by decide +kernel), List.mem_of_getElem? (i := 912) (by decide +kernel)⟩
theorem lw_p44 : lw_okq (⟨"WorkHallModel", "fire", "(I)V"⟩, 36) := ⟨⟨by decide +kernel, by decide +kernel⟩, List.mem_of_getElem? (i := 649) (by decide +kernel), List.mem_of_getElem? (i := 915) (by decide +kernel), List.mem_of_getElem? (i := 916) (by decide +kernel)⟩
def lw_privs_3 : List (MethodName × Nat) := [(⟨"WorkHallModel", "isDone", "(I)Z"⟩, 36), (⟨"WorkHallModel", "fork", "(II)V"⟩, 36), (⟨"WorkHallModel", "turn", "(I)V"⟩, 36), (⟨"WorkHallModel", "place0", "(I)I"⟩, 36), (⟨"WorkHallModel", "removeWorker", "(I)V"⟩, 36), (⟨"WorkHallModel", "fetch", "()I"⟩, 36), (⟨"WorkHallModel", "takeNext", "(I)V"⟩, 36), (⟨"WorkHallModel", "rest", "(I)V"⟩, 36), (⟨"WorkHallModel", "placeInQueue", "(I)I"⟩, 36), (⟨"WorkHallModel", "workerOf", "(I)I"⟩, 36), (⟨"WorkHallModel", "put", "(IDD)V"⟩, 36), (⟨"WorkHallModel", "first", "()I"⟩, 36), (⟨"WorkHallModel", "fire", "(I)V"⟩, 36)]
theorem lw_r3 : ∀ q ∈ lw_privs_3, lw_okq q := List.forall_mem_cons.mpr ⟨lw_p32, List.forall_mem_cons.mpr ⟨lw_p33, List.forall_mem_cons.mpr ⟨lw_p34, List.forall_mem_cons.mpr ⟨lw_p35, List.forall_mem_cons.mpr ⟨lw_p36, List.forall_mem_cons.mpr ⟨lw_p37, List.forall_mem_cons.mpr ⟨lw_p38, List.forall_mem_cons.mpr ⟨lw_p39, List.forall_mem_cons.mpr ⟨lw_p40, List.forall_mem_cons.mpr ⟨lw_p41, List.forall_mem_cons.mpr ⟨lw_p42, List.forall_mem_cons.mpr ⟨lw_p43, List.forall_mem_cons.mpr ⟨lw_p44, fun _ h => absurd h List.not_mem_nil⟩⟩⟩⟩⟩⟩⟩⟩⟩⟩⟩⟩⟩
def lw_privs : List (MethodName × Nat) := lw_privs_1 ++ (lw_privs_2 ++ (lw_privs_3))
def lw_tbl : List Cond := k2_sels lw_privs ++ tables_1
theorem lw_privs_ok : ∀ q ∈ lw_privs, lw_okq q := by
  show ∀ q ∈ lw_privs_1 ++ (lw_privs_2 ++ (lw_privs_3)), lw_okq q
  exact List.forall_mem_append.mpr ⟨lw_r1, List.forall_mem_append.mpr ⟨lw_r2, lw_r3⟩⟩
-- ===== end of PART A; then your names; then what follows =====
end
section
/-! ===== BEGIN words of one list among another's, by their places ===== -/
theorem goodIn_r {big : List Cond} (ws : List Cond) (ps : List Nat) (hp : ws = ps.filterMap (fun i => big[i]?)) (h : ws.all goodWord = true) : GoodIn big ws := by
  intro w hw
  have h1 := List.all_eq_true.mp h w hw
  rw [hp] at hw
  obtain ⟨i, -, hi⟩ := List.mem_filterMap.mp hw
  have hm : w ∈ big := by first | exact List.mem_of_getElem? hi | exact List.getElem?_mem hi
  exact ⟨hm, good_of_word h1⟩
theorem goodIn_app {big a b : List Cond} (ha : GoodIn big a) (hb : GoodIn big b) : GoodIn big (a ++ b) := fun w h => (List.mem_append.mp h).elim (ha w) (hb w)
theorem goodIn_ca {big a b : List Cond} {c : Cond} (ha : GoodIn big (c :: a)) (hb : GoodIn big b) : GoodIn big (c :: (a ++ b)) := fun w h => (List.mem_cons.mp h).elim (fun e => ha w (List.mem_cons.mpr (Or.inl e))) (fun h => (List.mem_append.mp h).elim (fun h => ha w (List.mem_cons.mpr (Or.inr h))) (hb w))
theorem goodIn_sub {big ws : List Cond} (hm : ∀ w ∈ ws, w ∈ big) (h : ws.all goodWord = true) : GoodIn big ws := fun w hw => ⟨hm w hw, good_of_word (List.all_eq_true.mp h w hw)⟩
/-! ===== END ===== -/

/-! ===== BEGIN exceptions that leave a method, and their catching by the caller (launches without stack traces) ===== -/
section VXA
/-! The laws vx_back, vx_callV, vx_callS, vx_callSW, vx_throw0, vx_throwS follow proofs of the library, with one case more: JvmDerived/Free/Laws.lean (Back.of_free), Shelf42/LK1.lean (callV, callS), Shelf/KitTraced.lean (throwNew0V, throwNewS). -/
/-- where a method has thrown q: the class by its name, the cell, what was written, the world -/
def vx_T (XC : String → State → State → Prop) (st : State) (q : Addr) (t : State) (mc ms : Nat) (free : Addr → Prop) : Prop :=
  ∃ (E : String) (ce : Cell) (L : List Loc), XC E st t ∧ t.heap[q]? = some ce ∧ ce.vm = .none ∧ st.vm.findClass E = some ce.cls ∧ st.WarmedH t.vm ∧ st.sameButNew ({ t with vm := st.vm } : State) L mc ms ∧ ∀ z ∈ L, free z.base
def vx_Q (Qc : Array Value → State → Outcome → State → Prop) (XC : String → State → State → Prop) (mc ms : Nat) (free : Addr → Prop) : Array Value → State → Outcome → State → Prop := fun a st o t =>
  (Qc a st o t ∧ ∃ L, FrameEnd st o t L mc ms ∧ ∀ q ∈ L, free q.base) ∨ ∃ q, o = .threw q ∧ vx_T XC st q t mc ms free
/-- a callee that returns or throws -/
def vx_Met (l : Launch) (y : MethodName) (ws : List Cond) (rm : Room) (Pc : Array Value → State → Prop) (Qc : Array Value → State → Outcome → State → Prop) (XC : String → State → State → Prop) (mc ms : Nat) (free : Addr → Prop) : Prop :=
  MetFree l y (headSpec ws rm) Pc (fun _ _ _ _ _ => True) (vx_Q Qc XC mc ms free)
def vx_Post (XC : String → State → State → Prop) (mc ms : Nat) (free : Addr → Prop) : Pt → Array Value → Addr → Pt → Prop := fun A a q B =>
  ∃ (g : JFrame) (mk : MethodId) (t : State) (L : List Loc) (E : String) (ce : Cell), B.U.heap = t.heap ∧ B.U.vm = t.vm ∧ XC E (A.U.calling g mk a) t ∧ t.heap[q]? = some ce ∧ ce.vm = .none ∧ A.U.vm.findClass E = some ce.cls ∧ B.locs = A.locs ++ L ∧ (∀ z ∈ L, free z.base) ∧ B.cells = A.cells + mc ∧ B.slots = A.slots + ms
def vx_Back (l : Launch) (R : Room) (p : Program) (e : Env) (below : List Frame) (s : State) (sargs : Array Value) (y : MethodName) (len W9 : Nat)
    (Pre : Pt → Array Value → Prop) (Post : Pt → Array Value → Option Value → Pt → Prop) (PostX : Pt → Array Value → Addr → Pt → Prop) : Prop :=
  ∀ (m : MethodId) (meth : Method) (c : Code) (A : Pt) (g : JFrame) (ig : Instr) (mk : MethodId) (a : Array Value),
    Stand p l e R s m sargs below meth c A.U A.locs A.cells A.slots → g.method = m → g.locals.size = c.maxLocals → decode c.code g.pc = .ok (ig, len) →
    2 * g.monitorRoom + (g.stack.map fun v => v.category).sum ≤ W9 → A.U.methodNamed? y = some mk → Pre A a →
    (∃ (v : Option Value) (B : Pt), Stand p l e R s m sargs below meth c B.U B.locs B.cells B.slots ∧ Post A a v B ∧
      Steps p.tables e below (doInvoke e (A.U.setTop g) [] mk a).1 (B.U.setTop { g with pc := g.pc + len, stack := v.toList ++ g.stack })) ∨
    (∃ (q : Addr) (B : Pt), Stand p l e R s m sargs below meth c B.U B.locs B.cells B.slots ∧ PostX A a q B ∧
      Steps p.tables e below (doInvoke e (A.U.setTop g) [] mk a).1 ((B.U.setTop g).pushFrame (.throwing q)))
section Payer
variable {l : Launch} {R : Room} {p : Program} {e : Env} {below : List Frame} {s : State} {sargs : Array Value} {y : MethodName} {len W9 : Nat}
theorem vx_back {ws : List Cond} {rm : Room} {Pc : Array Value → State → Prop} {Qc : Array Value → State → Outcome → State → Prop} {XC : String → State → State → Prop} {mc ms : Nat} {free : Addr → Prop} {bytes : ByteArray} {maxL : Nat} {ret : Option FieldType}
    (hM : vx_Met l y ws rm Pc Qc XC mc ms free) (hblind : FrameBlind Pc) (hrc : rm.cells = mc) (hrs : rm.slots = ms)
    (hframes : rm.frames + 1 ≤ R.frames) (hlocals : W9 + (maxL + 11) + rm.locals ≤ R.locals)
    (hws : ∀ w ∈ ws, ∀ a' U, s.WarmedH U.vm → w.before a' U = true) (hcode : Cond.code y bytes maxL ret ∈ ws) (hinit : ∀ a' U, s.WarmedH U.vm → (Cond.initialized y.cls).before a' U = true) :
    vx_Back l R p e below s sargs y len W9 (PreOf R mc ms Pc) (PostOf Qc mc ms free) (vx_Post XC mc ms free) := by
  intro m meth c A g ig mk a X hg hsize hdg hW hn hp
  have h1 : (headSpec ws rm).pre.before a A.U = true := atoms_intro fun w hw => hws w hw _ _ X.warmed
  have h2 : (Cond.code y bytes maxL ret).before a A.U = true := hws _ hcode _ _ X.warmed
  have h3 : (Cond.initialized y.cls).before a A.U = true := hinit _ _ X.warmed
  have h4 : A.cells + (headSpec ws rm).room.cells ≤ R.cells := by rw [show (headSpec ws rm).room.cells = mc from hrc]; exact hp.1
  have h5 : A.slots + (headSpec ws rm).room.slots ≤ R.slots := by rw [show (headSpec ws rm).room.slots = ms from hrs]; exact hp.2.1
  have hPc : Pc a (A.U.calling g mk a) := hblind _ _ _ _ hp.2.2
  obtain ⟨U, Ls, c0, s0⟩ := A
  dsimp only [Pt.U, Pt.locs, Pt.cells, Pt.slots] at h1 h2 h3 h4 h5 X hn hPc ⊢
  obtain ⟨methY, cY, hmY, hcY, -, hlY, -, -, -, -⟩ := Cond.code_spec hn h2
  obtain ⟨kY, hkY, -⟩ := className_of_methodNamed hn
  have hinitY : kY.init = .initialized := Cond.initialized_spec (findClass_of_methodNamed hn) hkY h3
  have h : At U g.method c below := by rw [hg]; exact X.here
  have hlocals9 : W9 + (maxL + 11) + (headSpec ws rm).room.locals ≤ R.locals := hlocals
  have happ : (headSpec ws rm).appliesLoose y e.platform (U.calling g mk a) = true :=
    Spec.appliesLoose_calling (g := g) h hdg hn hkY hinitY
      (X.room_calling (g := g) (R' := (headSpec ws rm).room) hsize hmY hcY hframes (by rw [hlY]; omega) h4 h5) h1
  obtain ⟨mid, hmid⟩ := h.above
  have hfr : (U.setTop g).frames = (.java g :: mid) ++ below := by rw [State.frames_setTop' g h.top, hmid]; rfl
  obtain ⟨o, s₂, hsteps, -, hend, hq⟩ := Steps.callFree hM p X.admits X.cas X.clock (acts := []) hfr happ hPc trivial
  have hq' : vx_Q Qc XC mc ms free a (U.calling g mk a) o s₂ := hq
  rw [State.frames_setTop' g h.top] at hend
  obtain ⟨g₀, hg0⟩ := Option.isSome_iff_exists.mp h.top
  obtain ⟨r, hr⟩ := State.topJava?_eq_some.mp hg0
  have hr' : (({ U with heap := s₂.heap, slotsUsed := s₂.slotsUsed } : State).setVm s₂.vm).frames = .java g₀ :: r := hr
  rcases hq' with ⟨hqc, L, hfe, hL⟩ | ⟨q, rfl, E, ce, L, hx, hce, hcv, hcl, hW₂, hsm, hL⟩
  · obtain ⟨⟨v, rfl⟩, hW₂, e2, q2, q3, q4, q5, q6⟩ := id hfe
    have e3 : s₂ = ({ (U.calling g mk a).setFrames s₂.frames with heap := s₂.heap, slotsUsed := s₂.slotsUsed } : State).setVm s₂.vm := by
      have : s₂ = ({ s₂ with vm := (U.calling g mk a).vm } : State).setVm s₂.vm := rfl
      rw [e2] at this
      exact this
    obtain ⟨c₂, i₂, len₂, hc₂, hd₂, hf₂⟩ := hend
    have hW' : U.WarmedH s₂.vm := hW₂
    have hcc : c₂ = c := by
      have h1 : s₂.code? g.method = U.code? g.method := by
        rw [State.code?_eq, State.code?_eq, hW'.alike.method?]
      exact Option.some.inj (hc₂.symm.trans (h1.trans h.code))
    subst hcc
    have hlen : len₂ = len := by rw [hdg] at hd₂; cases hd₂; rfl
    subst hlen
    have hs₂ : s₂ = (({ U with heap := s₂.heap, slotsUsed := s₂.slotsUsed } : State).setVm s₂.vm).setTop { g with pc := g.pc + len₂, stack := v.toList ++ g.stack } := by
      refine e3.trans ?_
      rw [hf₂, State.calling_eq h.top, State.setFrames_setFrames, State.setTop_of_frames _ hr', hr]
      rfl
    have hsame : U.sameButNew ({ U with heap := s₂.heap, slotsUsed := s₂.slotsUsed } : State) L mc ms := by
      refine ⟨?_, q2, q3, q4, q5, q6⟩
      obtain ⟨t, ht, -⟩ := State.frames_cons hr
      show ({ U with heap := s₂.heap, slotsUsed := s₂.slotsUsed } : State) = { U.setFrames U.frames with heap := s₂.heap, slotsUsed := s₂.slotsUsed }
      rw [State.setFrames_self ht]
    subst hg
    refine Or.inl ⟨v, ⟨(({ U with heap := s₂.heap, slotsUsed := s₂.slotsUsed } : State).setVm s₂.vm), Ls ++ L, c0 + mc, s0 + ms⟩,
      ⟨X.admits, X.cas, X.clock, X.frames, X.room, X.hears, X.method, X.code, (X.here.setHeapUsed s₂.heap s₂.slotsUsed).setVm hW'.alike, X.tail, State.WarmedH.trans X.warmed hW', X.limits, X.bytes, X.same.trans (hsame.setVm s.vm)⟩,
      ⟨g, mk, s₂, L, rfl, rfl, hqc, rfl, hL, rfl, rfl⟩, ?_⟩
    show Steps p.tables e below _ ((({ U with heap := s₂.heap, slotsUsed := s₂.slotsUsed } : State).setVm s₂.vm).setTop { g with pc := g.pc + len₂, stack := v.toList ++ g.stack })
    rw [← hs₂]
    exact hsteps
  · obtain ⟨e2, q2, q3, q4, q5, q6⟩ := id hsm
    have e3 : s₂ = ({ (U.calling g mk a).setFrames s₂.frames with heap := s₂.heap, slotsUsed := s₂.slotsUsed } : State).setVm s₂.vm := by
      have : s₂ = ({ s₂ with vm := (U.calling g mk a).vm } : State).setVm s₂.vm := rfl
      rw [e2] at this
      exact this
    have hf₂ : s₂.frames = .throwing q :: .java g :: U.frames.tail := hend
    have hW' : U.WarmedH s₂.vm := hW₂
    have hs₂ : s₂ = ((({ U with heap := s₂.heap, slotsUsed := s₂.slotsUsed } : State).setVm s₂.vm).setTop g).pushFrame (.throwing q) := by
      refine e3.trans ?_
      rw [hf₂, State.calling_eq h.top, State.setFrames_setFrames, State.pushFrame, State.frames_setTop _ hr', State.setTop_of_frames _ hr', State.setFrames_setFrames, hr]
      rfl
    have hsame : U.sameButNew ({ U with heap := s₂.heap, slotsUsed := s₂.slotsUsed } : State) L mc ms := by
      refine ⟨?_, q2, q3, q4, q5, q6⟩
      obtain ⟨t, ht, -⟩ := State.frames_cons hr
      show ({ U with heap := s₂.heap, slotsUsed := s₂.slotsUsed } : State) = { U.setFrames U.frames with heap := s₂.heap, slotsUsed := s₂.slotsUsed }
      rw [State.setFrames_self ht]
    subst hg
    refine Or.inr ⟨q, ⟨(({ U with heap := s₂.heap, slotsUsed := s₂.slotsUsed } : State).setVm s₂.vm), Ls ++ L, c0 + mc, s0 + ms⟩,
      ⟨X.admits, X.cas, X.clock, X.frames, X.room, X.hears, X.method, X.code, (X.here.setHeapUsed s₂.heap s₂.slotsUsed).setVm hW'.alike, X.tail, State.WarmedH.trans X.warmed hW', X.limits, X.bytes, X.same.trans (hsame.setVm s.vm)⟩,
      ⟨g, mk, s₂, L, E, ce, rfl, rfl, hx, hce, hcv, hcl, rfl, hL, rfl, rfl⟩, ?_⟩
    show Steps p.tables e below _ (((({ U with heap := s₂.heap, slotsUsed := s₂.slotsUsed } : State).setVm s₂.vm).setTop g).pushFrame (.throwing q))
    rw [← hs₂]
    exact hsteps
end Payer
section Calls
variable {p : Program} {l : Launch} {e : Env} {R : Room} {s : State} {m : MethodId} {args : Array Value} {below : List Frame} {meth : Method} {c : Code} {T : State} {locs : List Loc} {cells slots : Nat}
theorem vx_callV (X : Stand p l e R s m args below meth c T locs cells slots) (hexec : p.tables.exec = Jvm.exec) {own C : String} {index : Nat} {y : MethodName} {bytes : ByteArray} {maxL : Nat} {ret : Option FieldType}
    (hown : s.vm.findClass own = some m.cls) (hlink : (Cond.methodLink own index y).before args s = true) (hinst : (Cond.instanceMethod y).before args s = true) (hsel : (Cond.selects C y y).before args s = true)
    (hcode : (Cond.code y bytes maxL ret).before args s = true) (hy : y.cls ≠ "java/lang/invoke/MethodHandle" ∧ y.cls ≠ "java/lang/invoke/VarHandle")
    {W9 : Nat} {Pre : Pt → Array Value → Prop} {Post : Pt → Array Value → Option Value → Pt → Prop} {PostX : Pt → Array Value → Addr → Pt → Prop} (hK : vx_Back l R p e below s args y 3 W9 Pre Post PostX)
    {b : Addr} {cellB : Cell} (hcell : T.heap[b]? = some cellB) (hobj : cellB.vm.isStatics = false) (hcls : s.vm.findClass C = some cellB.cls)
    {g : JFrame} (hg : g.method = m) (hsize : g.locals.size = c.maxLocals) {argsL rest : List Value} (hlen : ∀ sig, parseMethodDescriptor y.desc = some sig → argsL.length = sig.parameters.length)
    (hstack : g.stack = argsL.reverse ++ .ref b :: rest) (hW : 2 * g.monitorRoom + (rest.map fun v => v.category).sum ≤ W9) (hdg : decode c.code g.pc = .ok (.invokevirtual index, 3))
    (hpre : ∀ vm₁, s.WarmedH vm₁ → Pre ⟨T.setVm vm₁, locs, cells, slots⟩ (Value.ref b :: argsL).toArray) :
    (∃ (v : Option Value) (vm₁ : Vm) (B : Pt), s.WarmedH vm₁ ∧ Stand p l e R s m args below meth c B.U B.locs B.cells B.slots ∧ Post ⟨T.setVm vm₁, locs, cells, slots⟩ (Value.ref b :: argsL).toArray v B ∧
      ∀ target, Steps p.tables e below (B.U.setTop { g with pc := g.pc + 3, stack := v.toList ++ rest }) target → Steps p.tables e below (T.setTop g) target) ∨
    (∃ (q : Addr) (vm₁ : Vm) (B : Pt), s.WarmedH vm₁ ∧ Stand p l e R s m args below meth c B.U B.locs B.cells B.slots ∧ PostX ⟨T.setVm vm₁, locs, cells, slots⟩ (Value.ref b :: argsL).toArray q B ∧
      Steps p.tables e below (T.setTop g) ((B.U.setTop { g with stack := rest }).pushFrame (.throwing q))) := by
  obtain ⟨mk, methM, hnamed, hmethM, hstM, habM⟩ := Cond.instanceMethod_spec hinst
  obtain ⟨methM', cM, hmethM', -, -, -, -, -, -, hsigM⟩ := Cond.code_spec hnamed hcode
  cases hmethM.symm.trans hmethM'
  obtain ⟨c2, r2, m2, q1, q2, q3, q4, kP, hkP, hkPi⟩ := Cond.selects_spec hsel
  cases hcls.symm.trans q1
  cases (State.methodFound?_of_named hnamed hy).symm.trans q2
  cases hnamed.symm.trans q3
  have hselP : selectMethod e.platform s.vm cellB.cls mk = .method mk := by rw [Launch.admits_selectMethod X.admits]; exact q4
  obtain ⟨vm₁, X₁, hstep₁⟩ := X.invokevirtual hexec hown hlink hnamed hmethM hstM hkP hkPi hy (a := b) (cell := cellB) hcell
    (fun z h => by rw [h] at hobj; cases hobj) hselP hmethM habM hkP hkPi (g := g) hg (argsL := argsL) (rest := rest) (hlen _ hsigM) hstack hdg
  rcases hK m meth c ⟨T.setVm vm₁, locs, cells, slots⟩ { g with stack := rest } (.invokevirtual index) mk (Value.ref b :: argsL).toArray X₁ hg hsize hdg hW (X₁.named hnamed) (hpre vm₁ X₁.warmed) with ⟨v, B, X', hpost, hsteps⟩ | ⟨q, B, X', hpost, hsteps⟩
  · exact Or.inl ⟨v, vm₁, B, X₁.warmed, X', hpost, fun target h => hstep₁ _ fun acts => by rw [doInvoke_state]; exact hsteps.trans h⟩
  · exact Or.inr ⟨q, vm₁, B, X₁.warmed, X', hpost, hstep₁ _ fun acts => by rw [doInvoke_state]; exact hsteps⟩
theorem vx_callS (X : Stand p l e R s m args below meth c T locs cells slots) (hexec : p.tables.exec = Jvm.exec) {own : String} {index : Nat} {y : MethodName} {bytes : ByteArray} {maxL : Nat} {ret : Option FieldType}
    (hown : s.vm.findClass own = some m.cls) (hlink : (Cond.methodLink own index y).before args s = true) (hstat : (Cond.static y).before args s = true) (hinit : (Cond.initialized y.cls).before args s = true)
    (hcode : (Cond.code y bytes maxL ret).before args s = true) (hy : y.cls ≠ "java/lang/invoke/MethodHandle" ∧ y.cls ≠ "java/lang/invoke/VarHandle")
    {W9 : Nat} {Pre : Pt → Array Value → Prop} {Post : Pt → Array Value → Option Value → Pt → Prop} {PostX : Pt → Array Value → Addr → Pt → Prop} (hK : vx_Back l R p e below s args y 3 W9 Pre Post PostX)
    {g : JFrame} (hg : g.method = m) (hsize : g.locals.size = c.maxLocals) {argsL rest : List Value} (hlen : ∀ sig, parseMethodDescriptor y.desc = some sig → argsL.length = sig.parameters.length)
    (hstack : g.stack = argsL.reverse ++ rest) (hW : 2 * g.monitorRoom + (rest.map fun v => v.category).sum ≤ W9) (hdg : decode c.code g.pc = .ok (.invokestatic index, 3))
    (hpre : ∀ vm₁, s.WarmedH vm₁ → Pre ⟨T.setVm vm₁, locs, cells, slots⟩ argsL.toArray) :
    (∃ (v : Option Value) (vm₁ : Vm) (B : Pt), s.WarmedH vm₁ ∧ Stand p l e R s m args below meth c B.U B.locs B.cells B.slots ∧ Post ⟨T.setVm vm₁, locs, cells, slots⟩ argsL.toArray v B ∧
      ∀ target, Steps p.tables e below (B.U.setTop { g with pc := g.pc + 3, stack := v.toList ++ rest }) target → Steps p.tables e below (T.setTop g) target) ∨
    (∃ (q : Addr) (vm₁ : Vm) (B : Pt), s.WarmedH vm₁ ∧ Stand p l e R s m args below meth c B.U B.locs B.cells B.slots ∧ PostX ⟨T.setVm vm₁, locs, cells, slots⟩ argsL.toArray q B ∧
      Steps p.tables e below (T.setTop g) ((B.U.setTop { g with stack := rest }).pushFrame (.throwing q))) := by
  obtain ⟨mk, hnamed⟩ := Cond.code_named hcode
  obtain ⟨methM, cM, hmethM, -, -, -, -, -, -, hsigM⟩ := Cond.code_spec hnamed hcode
  have hstatic : methM.isStatic = true := Cond.static_spec hnamed hmethM hstat
  obtain ⟨kP, hkP, -⟩ := className_of_methodNamed hnamed
  have hinitP : kP.init = .initialized := Cond.initialized_spec (findClass_of_methodNamed hnamed) hkP hinit
  obtain ⟨vm₁, X₁, hstep₁⟩ := X.invokestatic hexec hown hlink hnamed hmethM hstatic hkP hinitP hy (g := g) hg (argsL := argsL) (rest := rest) (hlen _ hsigM) hstack hdg
  rcases hK m meth c ⟨T.setVm vm₁, locs, cells, slots⟩ { g with stack := rest } (.invokestatic index) mk argsL.toArray X₁ hg hsize hdg hW (X₁.named hnamed) (hpre vm₁ X₁.warmed) with ⟨v, B, X', hpost, hsteps⟩ | ⟨q, B, X', hpost, hsteps⟩
  · exact Or.inl ⟨v, vm₁, B, X₁.warmed, X', hpost, fun target h => hstep₁ _ fun acts => by rw [doInvoke_state]; exact hsteps.trans h⟩
  · exact Or.inr ⟨q, vm₁, B, X₁.warmed, X', hpost, hstep₁ _ fun acts => by rw [doInvoke_state]; exact hsteps⟩
end Calls
theorem vx_cls {s : State} {T : State} {vm₁ : Vm} {E : String} {k : ClassId} (hW : s.WarmedH vm₁) (h : (T.setVm vm₁).vm.findClass E = some k) : s.vm.findClass E = some k := by
  have h1 : vm₁.findClass E = some k := h
  rw [hW.alike.findClass] at h1
  exact h1
/-- the method's frame g, with q thrown over it -/
def vx_W (p : Program) (l : Launch) (e : Env) (R : Room) (s : State) (m : MethodId) (args : Array Value) (below : List Frame) (meth : Method) (c : Code) (H : Heap) (locs : List Loc) (cells slots : Nat) (Q : State → Prop) (g : JFrame) (q : Addr) : Prop :=
  ∀ T : State, T.heap = H → Stand p l e R s m args below meth c T locs cells slots → ∃ t, Steps p.tables e below ((T.setTop g).pushFrame (.throwing q)) t ∧ Q t
def vx_Run (p : Program) (l : Launch) (e : Env) (R : Room) (s : State) (m : MethodId) (args : Array Value) (below : List Frame) (meth : Method) (c : Code) (H : Heap) (locs : List Loc) (cells slots mc ms : Nat) (g : JFrame) (rest : List Value) (Qa : State → Outcome → State → Prop) (XC : String → State → State → Prop) (free : Addr → Prop) : Prop :=
  ∀ T : State, T.heap = H → Stand p l e R s m args below meth c T locs cells slots →
    (∃ (v : Option Value) (st₀ t T' : State) (L : List Loc), st₀.heap = H ∧ Stand p l e R s m args below meth c T' (locs ++ L) (cells + mc) (slots + ms) ∧ (∀ q ∈ L, free q.base) ∧ T'.heap = t.heap ∧ T'.vm = t.vm ∧ Qa st₀ (.returned v) t ∧
      Goes p e below T g T' { g with pc := g.pc + 3, stack := v.toList ++ rest }) ∨
    (∃ (q : Addr) (st₀ t T' : State) (L : List Loc) (E : String) (ce : Cell), st₀.heap = H ∧ Stand p l e R s m args below meth c T' (locs ++ L) (cells + mc) (slots + ms) ∧ (∀ z ∈ L, free z.base) ∧ T'.heap = t.heap ∧ T'.vm = t.vm ∧ XC E st₀ t ∧ t.heap[q]? = some ce ∧ ce.vm = .none ∧ s.vm.findClass E = some ce.cls ∧
      Steps p.tables e below (T.setTop g) ((T'.setTop { g with stack := rest }).pushFrame (.throwing q)))
def vx_X {S : Type} (px : S → Prop) (B : String → S → State → Prop) (A : Nat → Prop) : String → State → State → Prop := fun E st t => ∃ u : S, px u ∧ B E u t ∧ va_F A st t
section Runs
variable {p : Program} {l : Launch} {e : Env} {R : Room} {s : State} {m : MethodId} {args : Array Value} {below : List Frame} {meth : Method} {c : Code} {H : Heap} {locs : List Loc} {cells slots : Nat}
variable {y : MethodName} {bytes cc : ByteArray} {maxL nL mc ms n index : Nat} {ret : Option FieldType} {ws : List Cond} {rm : Room} {Pc : Array Value → State → Prop} {Qc : Array Value → State → Outcome → State → Prop} {XC : String → State → State → Prop} {free : Addr → Prop} {Ts : List Cond} {own C : String} {b : Addr} {As rest : List Value} {g : JFrame}
theorem vx_callBack (cb : CallB R s args own index y bytes maxL ret ws rm mc ms n) (hM : vx_Met l y ws rm Pc Qc XC mc ms free) (hbl : FrameBlind Pc) : vx_Back l R p e below s args y 3 8 (PreOf R mc ms Pc) (PostOf Qc mc ms free) (vx_Post XC mc ms free) := by
  obtain ⟨hrc, hrs, hfr, hlo, hws, hcw, -, hini, -⟩ := cb
  exact vx_back (bytes := bytes) (maxL := maxL) (ret := ret) hM hbl hrc hrs hfr hlo hws hcw (fun a' U hW => word_at hW (Or.inl (by first | rfl | simp [Cond.onTables, Cond.keeps, Cond.steady])) hini)
theorem vx_runV (S : CallFix p m c cc nL s args Ts own) (hM : vx_Met l y ws rm Pc Qc XC mc ms free) (cw : CallW R s args own C index y bytes maxL ret ws rm mc ms n) (hp : PreV s H C b Pc As)
    (hg : g.method = m) (hn : As.length = n) (hsize : g.locals.size = nL) (hstack : g.stack = As.reverse ++ .ref b :: rest) (hW : 2 * g.monitorRoom + (rest.map fun v => v.category).sum ≤ 8) (hdg : decode cc g.pc = .ok (.invokevirtual index, 3)) (hf : cells + mc ≤ R.cells ∧ slots + ms ≤ R.slots) :
    vx_Run p l e R s m args below meth c H locs cells slots mc ms g rest (Qc (Value.ref b :: As).toArray) XC free := by
  have hK : vx_Back l R p e below s args y 3 8 (PreOf R mc ms Pc) (PostOf Qc mc ms free) (vx_Post XC mc ms free) := vx_callBack cw.1 hM hp.1
  obtain ⟨⟨-, -, -, -, -, -, hcode, -, hy, hlen, hl⟩, hin, hse⟩ := cw
  obtain ⟨hx, hb, hml, ho, -⟩ := S
  obtain ⟨-, ⟨cellB, hcB, hoB, hclB⟩, hPc⟩ := hp
  intro T hT X
  rcases vx_callV X hx (C := C) (bytes := bytes) (maxL := maxL) (ret := ret) ho hl hin hse hcode hy hK (by rw [hT]; exact hcB) hoB hclB hg (hsize.trans hml.symm) (argsL := As) (rest := rest) (fun sig h => hn.trans (hlen sig h)) hstack hW (by rw [hb]; exact hdg)
    (fun vm₁ hW₁ => ⟨hf.1, hf.2, hPc (T.setVm vm₁) hT hW₁⟩) with ⟨v, vm₁, ⟨U', l2, c2, s2⟩, hW₁, X', ⟨g', mk, t, L, e1, e2, hq, h1, hL, h2, h3⟩, st⟩ | ⟨q, vm₁, ⟨U', l2, c2, s2⟩, hW₁, X', ⟨g', mk, t, L, E, ce, e1, e2, hq, hce, hcv, hcl, h1, hL, h2, h3⟩, st⟩
  · dsimp only [Pt.U, Pt.locs, Pt.cells, Pt.slots] at X' e1 e2 h1 h2 h3 st
    subst h1; subst h2; subst h3
    exact Or.inl ⟨v, (T.setVm vm₁).calling g' mk (Value.ref b :: As).toArray, t, U', L, hT, X', hL, e1, e2, hq, st⟩
  · dsimp only [Pt.U, Pt.locs, Pt.cells, Pt.slots] at X' e1 e2 h1 h2 h3 st hcl
    subst h1; subst h2; subst h3
    exact Or.inr ⟨q, (T.setVm vm₁).calling g' mk (Value.ref b :: As).toArray, t, U', L, E, ce, hT, X', hL, e1, e2, hq, hce, hcv, vx_cls hW₁ hcl, st⟩
theorem vx_runS (S : CallFix p m c cc nL s args Ts own) (hM : vx_Met l y ws rm Pc Qc XC mc ms free) (cw : CallB R s args own index y bytes maxL ret ws rm mc ms n ∧ (Cond.static y).before args s = true) (hp : PreS s H Pc As)
    (hg : g.method = m) (hn : As.length = n) (hsize : g.locals.size = nL) (hstack : g.stack = As.reverse ++ rest) (hW : 2 * g.monitorRoom + (rest.map fun v => v.category).sum ≤ 8) (hdg : decode cc g.pc = .ok (.invokestatic index, 3)) (hf : cells + mc ≤ R.cells ∧ slots + ms ≤ R.slots) :
    vx_Run p l e R s m args below meth c H locs cells slots mc ms g rest (Qc As.toArray) XC free := by
  have hK : vx_Back l R p e below s args y 3 8 (PreOf R mc ms Pc) (PostOf Qc mc ms free) (vx_Post XC mc ms free) := vx_callBack cw.1 hM hp.1
  obtain ⟨⟨-, -, -, -, -, -, hcode, hini, hy, hlen, hl⟩, hstt⟩ := cw
  obtain ⟨hx, hb, hml, ho, -⟩ := S
  intro T hT X
  rcases vx_callS X hx (bytes := bytes) (maxL := maxL) (ret := ret) ho hl hstt hini hcode hy hK hg (hsize.trans hml.symm) (argsL := As) (rest := rest) (fun sig h => hn.trans (hlen sig h)) hstack hW (by rw [hb]; exact hdg)
    (fun vm₁ hW₁ => ⟨hf.1, hf.2, hp.2 (T.setVm vm₁) hT hW₁⟩) with ⟨v, vm₁, ⟨U', l2, c2, s2⟩, hW₁, X', ⟨g', mk, t, L, e1, e2, hq, h1, hL, h2, h3⟩, st⟩ | ⟨q, vm₁, ⟨U', l2, c2, s2⟩, hW₁, X', ⟨g', mk, t, L, E, ce, e1, e2, hq, hce, hcv, hcl, h1, hL, h2, h3⟩, st⟩
  · dsimp only [Pt.U, Pt.locs, Pt.cells, Pt.slots] at X' e1 e2 h1 h2 h3 st
    subst h1; subst h2; subst h3
    exact Or.inl ⟨v, (T.setVm vm₁).calling g' mk As.toArray, t, U', L, hT, X', hL, e1, e2, hq, st⟩
  · dsimp only [Pt.U, Pt.locs, Pt.cells, Pt.slots] at X' e1 e2 h1 h2 h3 st hcl
    subst h1; subst h2; subst h3
    exact Or.inr ⟨q, (T.setVm vm₁).calling g' mk As.toArray, t, U', L, E, ce, hT, X', hL, e1, e2, hq, hce, hcv, vx_cls hW₁ hcl, st⟩
end Runs
section Rows
variable {p : Program} {l : Launch} {e : Env} {R : Room} {s : State} {m : MethodId} {args : Array Value} {below : List Frame} {meth : Method} {c : Code} {H : Heap} {locs : List Loc} {cells slots : Nat} {Q : State → Prop}
variable {mc ms : Nat} {free : Addr → Prop} {A0 A1 : Nat → Prop} {H0 : Heap} {a : Array Value} {pc : Nat} {ls : Array Slot} {st0 rest : List Value}
theorem vx_keep {st₀ t T' : State} {L : List Loc} (h0 : st₀.heap = H) (e1 : T'.heap = t.heap) (hS : va_S A0 H0 H locs) (hA : ∀ q, q < H.size → A1 q → A0 q) (hf : ∀ q, free q → A0 q) (hL : ∀ q ∈ L, free q.base) (hF : va_F A1 st₀ t) :
    H.size ≤ T'.heap.size ∧ (∀ q : Nat, q < H.size → ¬ A1 q → T'.heap[q]? = H[q]?) ∧ va_S A0 H0 T'.heap (locs ++ L) := by
  obtain ⟨hz, hk⟩ := hF
  rw [h0] at hz hk
  exact ⟨by rw [e1]; exact hz, fun q h1 h2 => by rw [e1]; exact hk q h1 h2,
    ⟨Nat.le_trans hS.1 (by rw [e1]; exact hz), fun q h1 h2 => by rw [e1, hk q (Nat.lt_of_lt_of_le h1 hS.1) (fun z => h2 (hA q (Nat.lt_of_lt_of_le h1 hS.1) z))]; exact hS.2.1 q h1 h2, fun q hq => by
      rcases List.mem_append.mp hq with h | h
      · exact hS.2.2 q h
      · exact hf _ (hL q h)⟩⟩
theorem vx_calli {S SX : Type} {post : Int32 → S → Prop} {px : SX → Prop} {B : S → State → Prop} {BX : String → SX → State → Prop} {AX : Nat → Prop} (hr : vx_Run p l e R s m args below meth c H locs cells slots mc ms (F0 m pc ls st0) rest (va_Qi post B A1 a) (vx_X px BX AX) free) (hS : va_S A0 H0 H locs) (hA : ∀ q, q < H.size → A1 q → A0 q) (hf : ∀ q, free q → A0 q) (hAX : ∀ q, q < H.size → AX q → A0 q)
    (kx : ∀ (E : String) (ce : Cell) (q9 : Addr) (u : SX) (t : State) (H1 : Heap) (locs1 : List Loc), t.heap = H1 → s.vm.Alike t.vm → px u → BX E u t → H.size ≤ H1.size → (∀ q : Nat, q < H.size → ¬ AX q → H1[q]? = H[q]?) → va_S A0 H0 H1 locs1 → H1[q9]? = some ce → ce.vm = .none → s.vm.findClass E = some ce.cls → vx_W p l e R s m args below meth c H1 locs1 (cells + mc) (slots + ms) Q (F0 m pc ls rest) q9)
    (kk : ∀ (r : Int32) (u : S) (t : State) (H1 : Heap) (locs1 : List Loc), t.heap = H1 → s.vm.Alike t.vm → post r u → B u t → H.size ≤ H1.size → (∀ q : Nat, q < H.size → ¬ A1 q → H1[q]? = H[q]?) → va_S A0 H0 H1 locs1 → W p l e R s m args below meth c H1 locs1 (cells + mc) (slots + ms) Q (F0 m (pc + 3) ls (.int r :: rest))) : W p l e R s m args below meth c H locs cells slots Q (F0 m pc ls st0) := by
  intro T hT X
  rcases hr T hT X with ⟨v, st₀, t, T', L, h0, X', hL, e1, e2, ⟨⟨r, u, hv, hp, hb⟩, hF⟩, st⟩ | ⟨q, st₀, t, T', L, E, ce, h0, X', hL, e1, e2, ⟨u, hp, hb, hF⟩, hce, hcv, hcl, st⟩
  · cases hv
    obtain ⟨k1, k2, k3⟩ := vx_keep h0 e1 hS hA hf hL hF
    obtain ⟨t2, a1, b1⟩ := kk r u t T'.heap (locs ++ L) e1.symm (by rw [← e2]; exact X'.warmed.alike) hp hb k1 k2 k3 T' rfl X'
    exact ⟨t2, st t2 a1, b1⟩
  · obtain ⟨k1, k2, k3⟩ := vx_keep h0 e1 hS hAX hf hL hF
    obtain ⟨t2, a1, b1⟩ := kx E ce q u t T'.heap (locs ++ L) e1.symm (by rw [← e2]; exact X'.warmed.alike) hp hb k1 k2 k3 (by rw [e1]; exact hce) hcv hcl T' rfl X'
    exact ⟨t2, st.trans a1, b1⟩
theorem vx_calll {S SX : Type} {post : Int64 → S → Prop} {px : SX → Prop} {B : S → State → Prop} {BX : String → SX → State → Prop} {AX : Nat → Prop} (hr : vx_Run p l e R s m args below meth c H locs cells slots mc ms (F0 m pc ls st0) rest (va_Ql post B A1 a) (vx_X px BX AX) free) (hS : va_S A0 H0 H locs) (hA : ∀ q, q < H.size → A1 q → A0 q) (hf : ∀ q, free q → A0 q) (hAX : ∀ q, q < H.size → AX q → A0 q)
    (kx : ∀ (E : String) (ce : Cell) (q9 : Addr) (u : SX) (t : State) (H1 : Heap) (locs1 : List Loc), t.heap = H1 → s.vm.Alike t.vm → px u → BX E u t → H.size ≤ H1.size → (∀ q : Nat, q < H.size → ¬ AX q → H1[q]? = H[q]?) → va_S A0 H0 H1 locs1 → H1[q9]? = some ce → ce.vm = .none → s.vm.findClass E = some ce.cls → vx_W p l e R s m args below meth c H1 locs1 (cells + mc) (slots + ms) Q (F0 m pc ls rest) q9)
    (kk : ∀ (r : Int64) (u : S) (t : State) (H1 : Heap) (locs1 : List Loc), t.heap = H1 → s.vm.Alike t.vm → post r u → B u t → H.size ≤ H1.size → (∀ q : Nat, q < H.size → ¬ A1 q → H1[q]? = H[q]?) → va_S A0 H0 H1 locs1 → W p l e R s m args below meth c H1 locs1 (cells + mc) (slots + ms) Q (F0 m (pc + 3) ls (.long r :: rest))) : W p l e R s m args below meth c H locs cells slots Q (F0 m pc ls st0) := by
  intro T hT X
  rcases hr T hT X with ⟨v, st₀, t, T', L, h0, X', hL, e1, e2, ⟨⟨r, u, hv, hp, hb⟩, hF⟩, st⟩ | ⟨q, st₀, t, T', L, E, ce, h0, X', hL, e1, e2, ⟨u, hp, hb, hF⟩, hce, hcv, hcl, st⟩
  · cases hv
    obtain ⟨k1, k2, k3⟩ := vx_keep h0 e1 hS hA hf hL hF
    obtain ⟨t2, a1, b1⟩ := kk r u t T'.heap (locs ++ L) e1.symm (by rw [← e2]; exact X'.warmed.alike) hp hb k1 k2 k3 T' rfl X'
    exact ⟨t2, st t2 a1, b1⟩
  · obtain ⟨k1, k2, k3⟩ := vx_keep h0 e1 hS hAX hf hL hF
    obtain ⟨t2, a1, b1⟩ := kx E ce q u t T'.heap (locs ++ L) e1.symm (by rw [← e2]; exact X'.warmed.alike) hp hb k1 k2 k3 (by rw [e1]; exact hce) hcv hcl T' rfl X'
    exact ⟨t2, st.trans a1, b1⟩
theorem vx_callf {S SX : Type} {post : UInt32 → S → Prop} {px : SX → Prop} {B : S → State → Prop} {BX : String → SX → State → Prop} {AX : Nat → Prop} (hr : vx_Run p l e R s m args below meth c H locs cells slots mc ms (F0 m pc ls st0) rest (va_Qf post B A1 a) (vx_X px BX AX) free) (hS : va_S A0 H0 H locs) (hA : ∀ q, q < H.size → A1 q → A0 q) (hf : ∀ q, free q → A0 q) (hAX : ∀ q, q < H.size → AX q → A0 q)
    (kx : ∀ (E : String) (ce : Cell) (q9 : Addr) (u : SX) (t : State) (H1 : Heap) (locs1 : List Loc), t.heap = H1 → s.vm.Alike t.vm → px u → BX E u t → H.size ≤ H1.size → (∀ q : Nat, q < H.size → ¬ AX q → H1[q]? = H[q]?) → va_S A0 H0 H1 locs1 → H1[q9]? = some ce → ce.vm = .none → s.vm.findClass E = some ce.cls → vx_W p l e R s m args below meth c H1 locs1 (cells + mc) (slots + ms) Q (F0 m pc ls rest) q9)
    (kk : ∀ (r : UInt32) (u : S) (t : State) (H1 : Heap) (locs1 : List Loc), t.heap = H1 → s.vm.Alike t.vm → post r u → B u t → H.size ≤ H1.size → (∀ q : Nat, q < H.size → ¬ A1 q → H1[q]? = H[q]?) → va_S A0 H0 H1 locs1 → W p l e R s m args below meth c H1 locs1 (cells + mc) (slots + ms) Q (F0 m (pc + 3) ls (.float r :: rest))) : W p l e R s m args below meth c H locs cells slots Q (F0 m pc ls st0) := by
  intro T hT X
  rcases hr T hT X with ⟨v, st₀, t, T', L, h0, X', hL, e1, e2, ⟨⟨r, u, hv, hp, hb⟩, hF⟩, st⟩ | ⟨q, st₀, t, T', L, E, ce, h0, X', hL, e1, e2, ⟨u, hp, hb, hF⟩, hce, hcv, hcl, st⟩
  · cases hv
    obtain ⟨k1, k2, k3⟩ := vx_keep h0 e1 hS hA hf hL hF
    obtain ⟨t2, a1, b1⟩ := kk r u t T'.heap (locs ++ L) e1.symm (by rw [← e2]; exact X'.warmed.alike) hp hb k1 k2 k3 T' rfl X'
    exact ⟨t2, st t2 a1, b1⟩
  · obtain ⟨k1, k2, k3⟩ := vx_keep h0 e1 hS hAX hf hL hF
    obtain ⟨t2, a1, b1⟩ := kx E ce q u t T'.heap (locs ++ L) e1.symm (by rw [← e2]; exact X'.warmed.alike) hp hb k1 k2 k3 (by rw [e1]; exact hce) hcv hcl T' rfl X'
    exact ⟨t2, st.trans a1, b1⟩
theorem vx_calld {S SX : Type} {post : UInt64 → S → Prop} {px : SX → Prop} {B : S → State → Prop} {BX : String → SX → State → Prop} {AX : Nat → Prop} (hr : vx_Run p l e R s m args below meth c H locs cells slots mc ms (F0 m pc ls st0) rest (va_Qd post B A1 a) (vx_X px BX AX) free) (hS : va_S A0 H0 H locs) (hA : ∀ q, q < H.size → A1 q → A0 q) (hf : ∀ q, free q → A0 q) (hAX : ∀ q, q < H.size → AX q → A0 q)
    (kx : ∀ (E : String) (ce : Cell) (q9 : Addr) (u : SX) (t : State) (H1 : Heap) (locs1 : List Loc), t.heap = H1 → s.vm.Alike t.vm → px u → BX E u t → H.size ≤ H1.size → (∀ q : Nat, q < H.size → ¬ AX q → H1[q]? = H[q]?) → va_S A0 H0 H1 locs1 → H1[q9]? = some ce → ce.vm = .none → s.vm.findClass E = some ce.cls → vx_W p l e R s m args below meth c H1 locs1 (cells + mc) (slots + ms) Q (F0 m pc ls rest) q9)
    (kk : ∀ (r : UInt64) (u : S) (t : State) (H1 : Heap) (locs1 : List Loc), t.heap = H1 → s.vm.Alike t.vm → post r u → B u t → H.size ≤ H1.size → (∀ q : Nat, q < H.size → ¬ A1 q → H1[q]? = H[q]?) → va_S A0 H0 H1 locs1 → W p l e R s m args below meth c H1 locs1 (cells + mc) (slots + ms) Q (F0 m (pc + 3) ls (.double r :: rest))) : W p l e R s m args below meth c H locs cells slots Q (F0 m pc ls st0) := by
  intro T hT X
  rcases hr T hT X with ⟨v, st₀, t, T', L, h0, X', hL, e1, e2, ⟨⟨r, u, hv, hp, hb⟩, hF⟩, st⟩ | ⟨q, st₀, t, T', L, E, ce, h0, X', hL, e1, e2, ⟨u, hp, hb, hF⟩, hce, hcv, hcl, st⟩
  · cases hv
    obtain ⟨k1, k2, k3⟩ := vx_keep h0 e1 hS hA hf hL hF
    obtain ⟨t2, a1, b1⟩ := kk r u t T'.heap (locs ++ L) e1.symm (by rw [← e2]; exact X'.warmed.alike) hp hb k1 k2 k3 T' rfl X'
    exact ⟨t2, st t2 a1, b1⟩
  · obtain ⟨k1, k2, k3⟩ := vx_keep h0 e1 hS hAX hf hL hF
    obtain ⟨t2, a1, b1⟩ := kx E ce q u t T'.heap (locs ++ L) e1.symm (by rw [← e2]; exact X'.warmed.alike) hp hb k1 k2 k3 (by rw [e1]; exact hce) hcv hcl T' rfl X'
    exact ⟨t2, st.trans a1, b1⟩
theorem vx_callv {S SX : Type} {post : S → Prop} {px : SX → Prop} {B : S → State → Prop} {BX : String → SX → State → Prop} {AX : Nat → Prop} (hr : vx_Run p l e R s m args below meth c H locs cells slots mc ms (F0 m pc ls st0) rest (va_Qv post B A1 a) (vx_X px BX AX) free) (hS : va_S A0 H0 H locs) (hA : ∀ q, q < H.size → A1 q → A0 q) (hf : ∀ q, free q → A0 q) (hAX : ∀ q, q < H.size → AX q → A0 q)
    (kx : ∀ (E : String) (ce : Cell) (q9 : Addr) (u : SX) (t : State) (H1 : Heap) (locs1 : List Loc), t.heap = H1 → s.vm.Alike t.vm → px u → BX E u t → H.size ≤ H1.size → (∀ q : Nat, q < H.size → ¬ AX q → H1[q]? = H[q]?) → va_S A0 H0 H1 locs1 → H1[q9]? = some ce → ce.vm = .none → s.vm.findClass E = some ce.cls → vx_W p l e R s m args below meth c H1 locs1 (cells + mc) (slots + ms) Q (F0 m pc ls rest) q9)
    (kk : ∀ (u : S) (t : State) (H1 : Heap) (locs1 : List Loc), t.heap = H1 → s.vm.Alike t.vm → post u → B u t → H.size ≤ H1.size → (∀ q : Nat, q < H.size → ¬ A1 q → H1[q]? = H[q]?) → va_S A0 H0 H1 locs1 → W p l e R s m args below meth c H1 locs1 (cells + mc) (slots + ms) Q (F0 m (pc + 3) ls (rest))) : W p l e R s m args below meth c H locs cells slots Q (F0 m pc ls st0) := by
  intro T hT X
  rcases hr T hT X with ⟨v, st₀, t, T', L, h0, X', hL, e1, e2, ⟨⟨u, hv, hp, hb⟩, hF⟩, st⟩ | ⟨q, st₀, t, T', L, E, ce, h0, X', hL, e1, e2, ⟨u, hp, hb, hF⟩, hce, hcv, hcl, st⟩
  · cases hv
    obtain ⟨k1, k2, k3⟩ := vx_keep h0 e1 hS hA hf hL hF
    obtain ⟨t2, a1, b1⟩ := kk u t T'.heap (locs ++ L) e1.symm (by rw [← e2]; exact X'.warmed.alike) hp hb k1 k2 k3 T' rfl X'
    exact ⟨t2, st t2 a1, b1⟩
  · obtain ⟨k1, k2, k3⟩ := vx_keep h0 e1 hS hAX hf hL hF
    obtain ⟨t2, a1, b1⟩ := kx E ce q u t T'.heap (locs ++ L) e1.symm (by rw [← e2]; exact X'.warmed.alike) hp hb k1 k2 k3 (by rw [e1]; exact hce) hcv hcl T' rfl X'
    exact ⟨t2, st.trans a1, b1⟩
/-- caught by the row x of this method's table; the rows ahead don't take it -/
theorem vx_catch {own name : String} {E : String} {ce : Cell} {q : Addr} (hown : s.vm.findClass own = some m.cls) (pre : List ExceptionTableEntry) (x : ExceptionTableEntry) (suf : List ExceptionTableEntry) (hsplit : c.exceptionTable.toList = pre ++ x :: suf)
    (hpass : ∀ z ∈ pre, covers z pc = false ∨ (z.catchType ≠ 0 ∧ ∃ nm : String, (Cond.classLink own z.catchType nm).before args s = true ∧ va_Nc E nm s)) (hx : covers x pc = true) (h0 : x.catchType ≠ 0)
    (hlink : (Cond.classLink own x.catchType name).before args s = true) (hcast : (Cond.castable E name).before args s = true) (hcell : H[q]? = some ce) (hv : ce.vm = .none) (hcl : s.vm.findClass E = some ce.cls)
    (kk : W p l e R s m args below meth c H locs cells slots Q (F0 m x.handlerPc ls [.ref q])) : vx_W p l e R s m args below meth c H locs cells slots Q (F0 m pc ls rest) q := by
  intro T hT X
  have hpl : e.platform.magicAccessors = ({} : Platform).magicAccessors := by rw [X.admits.platform]
  obtain ⟨c3, c4, hc3, hc4, hasg⟩ := Cond.castable_spec hcast
  cases Option.some.inj (hc3.symm.trans hcl)
  obtain ⟨c5, hc5, hcl5⟩ := Cond.classLink_spec hown hlink e.platform hpl
  cases Option.some.inj (hc4.symm.trans hc5)
  obtain ⟨vm', X', st⟩ := X.thenCaughtThrough q (g := F0 m pc ls rest) rfl (Steps.refl _) (by rw [hT]; exact hcell) (by rw [hv]; rfl) (by obtain ⟨k9, h9, -⟩ := Vm.findClass_spec hcl; exact ⟨k9, h9⟩) pre x suf hsplit
    (fun z hz => by
      rcases hpass z hz with h | ⟨hz0, nm, hl1, hn1⟩
      · exact Or.inl h
      · obtain ⟨c6, hc6, hcl6⟩ := Cond.classLink_spec hown hl1 e.platform hpl
        obtain ⟨a8, b8, h1, h2, h3⟩ := hn1
        cases Option.some.inj (h1.symm.trans hcl)
        cases Option.some.inj (h2.symm.trans hc6)
        exact Or.inr ⟨hz0, _, hcl6, h3⟩) hx (Or.inr ⟨h0, c4, hcl5, hasg⟩)
  obtain ⟨t, a1, b1⟩ := kk (T.setVm vm') hT X'
  exact ⟨t, st.trans a1, b1⟩
end Rows
section Ends
variable {p : Program} {l : Launch} {e : Env} {R : Room} {s : State} {m : MethodId} {args : Array Value} {below : List Frame} {meth : Method} {c : Code} {H : Heap} {locs : List Loc} {cells slots : Nat} {Q : State → Prop}
variable {mc ms : Nat} {free : Addr → Prop} {A0 A1 : Nat → Prop} {H0 : Heap} {a : Array Value} {ls : Array Slot} {st0 rest : List Value}
variable {Qc : Array Value → State → Outcome → State → Prop} {XC : String → State → State → Prop}
/-- what a body that may throw owes at its end -/
def vx_MQ (below : List Frame) (Qc : Array Value → State → Outcome → State → Prop) (XC : String → State → State → Prop) (a : Array Value) (s : State) (mc ms : Nat) (free : Addr → Prop) : State → Prop := fun t =>
  ∃ o, t.status = .running ∧ Ended t below o ∧ vx_Q Qc XC mc ms free a s o t
theorem vx_ret {g : JFrame} {mc ms : Nat} (k : W p l e R s m args below meth c H locs cells slots (MQ below Qc args s mc ms free) g) : W p l e R s m args below meth c H locs cells slots (vx_MQ below Qc XC args s mc ms free) g := by
  intro T hT X
  obtain ⟨t, a1, o, b1, b2, b3, b4⟩ := k T hT X
  exact ⟨t, a1, o, b1, b2, Or.inl ⟨b3, b4⟩⟩
/-- not caught here: it goes on to the caller -/
theorem vx_widen {g : JFrame} {q : Addr} {k n : Nat} (h1 : cells ≤ k) (h2 : slots ≤ n) (kk : vx_W p l e R s m args below meth c H locs k n Q g q) : vx_W p l e R s m args below meth c H locs cells slots Q g q := fun T hT X => kk T hT (stand_widen X h1 h2)
theorem vx_out {pc : Nat} {E : String} {ce : Cell} {q : Addr} {mc ms : Nat} (hout : ∀ x ∈ c.exceptionTable.toList, covers x pc = false) (hlocks : meth.locks = false) (hcell : H[q]? = some ce) (hv : ce.vm = .none) (hcl : s.vm.findClass E = some ce.cls)
    (hx : ∀ t : State, t.heap = H → s.vm.Alike t.vm → XC E s t) (hf : ∀ z ∈ locs, free z.base) (hc : cells ≤ mc) (hs : slots ≤ ms) :
    vx_W p l e R s m args below meth c H locs cells slots (vx_MQ below Qc XC args s mc ms free) (F0 m pc ls rest) q := by
  intro T hT X
  obtain ⟨st1, hrun, hend, hW, hsm⟩ := X.leaveThrown q (g := F0 m pc ls rest) rfl rfl rfl hout hlocks
  have hcell9 : (T.setFrames (.throwing q :: below)).heap[q]? = some ce := by
    show T.heap[q]? = some ce
    rw [hT]; exact hcell
  exact ⟨_, st1, .threw q, hrun, hend, Or.inr ⟨q, rfl, E, ce, locs, hx _ hT hW.alike, hcell9, hv, hcl, hW, hsm.mono hc hs, hf⟩⟩
theorem vx_frame {U : State} {k n : Nat} (h : s.sameButNew ({ U with vm := s.vm } : State) locs k n) : s.heap.size ≤ U.heap.size ∧ ∀ q : Nat, q < s.heap.size → (∀ z ∈ locs, z.base ≠ q) → U.heap[q]? = s.heap[q]? := by
  obtain ⟨-, h2, -, -, -, h6⟩ := h
  refine ⟨h2, fun q hq hz => ?_⟩
  obtain ⟨c9, e1, e2, e3, e4⟩ := h6 q _ (Array.getElem?_eq_getElem hq)
  have hs : c9.slots = (s.heap[q]).slots := Array.ext_getElem? fun i => e4 i fun hm => hz _ hm rfl
  have h9 : c9 = s.heap[q] := by
    rw [hs] at e2
    exact e2
  have e5 : U.heap[q]? = some c9 := e1
  rw [e5, h9, Array.getElem?_eq_getElem hq]
/-- the words of a throw but the four that speak of the heap -/
def vx_no (w : Cond) : Bool := decide (w ≠ .isRef (.static Bundle.tN "UNASSIGNED_STACK" Bundle.steD)) && decide (w ≠ .isRef (.static Bundle.tN "SUPPRESSED_SENTINEL" Bundle.listD)) && decide (w ≠ .laysStatic Bundle.tN "UNASSIGNED_STACK" Bundle.steD) && decide (w ≠ .laysStatic Bundle.tN "SUPPRESSED_SENTINEL" Bundle.listD)
def vx_at0 (own : String) (ic : Nat) (X : String) (names : List String) : List Cond := (Bundle.ownAtoms0 own ic X names).filter vx_no
def vx_atS (own : String) (ic : Nat) (X : String) (names : List String) : List Cond := (Bundle.ownAtoms own ic X names).filter vx_no
/-- a word that the tables alone decide, or a good one -/
def vx_ot (w : Cond) : Bool := w.onTables || goodWord w
theorem vx_ot_at {args a' : Array Value} {s U : State} {w : Cond} (hW : s.WarmedH U.vm) (hvm : s.vm = U.vm) (hg : vx_ot w = true) (h : w.before args s = true) : w.before a' U = true := by
  simp only [vx_ot, Bool.or_eq_true] at hg
  rcases hg with hg | hg
  · exact va_tabs hg hvm h
  · exact word_at hW (good_of_word hg) h
/-- a list's words: the good ones out of the method's own list, the others by premises of their own -/
theorem vx_hat {args : Array Value} {s : State} {L B : List Cond} (h1 : ∀ w ∈ L.filter goodWord, w.before args s = true) (h2 : ∀ w ∈ L.filter (fun w => !goodWord w), w ∈ B) (h3 : ∀ w ∈ B, w.before args s = true) : ∀ w ∈ L, w.before args s = true := by
  intro w hw
  by_cases g : goodWord w = true
  · exact h1 w (List.mem_filter.mpr ⟨hw, g⟩)
  · refine h3 w (h2 w (List.mem_filter.mpr ⟨hw, ?_⟩))
    show (!goodWord w) = true
    cases hgw : goodWord w
    · rfl
    · exact absurd hgw g
theorem vx_c {args : Array Value} {s : State} {w : Cond} {B : List Cond} (h : w.before args s = true) (t : ∀ w ∈ B, w.before args s = true) : ∀ w' ∈ w :: B, w'.before args s = true := fun w' h' => (List.mem_cons.mp h').elim (fun e => by rw [e]; exact h) (t w')
theorem vx_n {args : Array Value} {s : State} : ∀ w ∈ ([] : List Cond), w.before args s = true := fun _ h => nomatch h
theorem vx_own {args : Array Value} {s : State} {L : List Cond} (h1 : ∀ w ∈ L.filter vx_no, w.before args s = true)
    (hU : (Cond.isRef (.static Bundle.tN "UNASSIGNED_STACK" Bundle.steD)).before args s = true) (hN : (Cond.isRef (.static Bundle.tN "SUPPRESSED_SENTINEL" Bundle.listD)).before args s = true)
    (lU : (Cond.laysStatic Bundle.tN "UNASSIGNED_STACK" Bundle.steD).before args s = true) (lN : (Cond.laysStatic Bundle.tN "SUPPRESSED_SENTINEL" Bundle.listD).before args s = true) : ∀ w ∈ L, w.before args s = true := by
  intro w hw
  by_cases e1 : w = .isRef (.static Bundle.tN "UNASSIGNED_STACK" Bundle.steD)
  · rw [e1]; exact hU
  · by_cases e2 : w = .isRef (.static Bundle.tN "SUPPRESSED_SENTINEL" Bundle.listD)
    · rw [e2]; exact hN
    · by_cases e3 : w = .laysStatic Bundle.tN "UNASSIGNED_STACK" Bundle.steD
      · rw [e3]; exact lU
      · by_cases e4 : w = .laysStatic Bundle.tN "SUPPRESSED_SENTINEL" Bundle.listD
        · rw [e4]; exact lN
        · exact h1 w (List.mem_filter.mpr ⟨hw, by unfold vx_no; rw [decide_eq_true e1, decide_eq_true e2, decide_eq_true e3, decide_eq_true e4]; rfl⟩)
/-- where a static field lies, its class's statics cell in H -/
def vx_L (C n d : String) (A : Nat → Prop) (U : State) (H : Heap) : Prop := ∃ (c : ClassId) (k : Class) (i : Nat) (f : Field) (a : Nat) (cell : Cell), U.vm.findClass C = some c ∧ U.fieldFound? C n d = some (c, k, i, f) ∧ f.isStatic = true ∧ k.statics = some a ∧ H[a]? = some cell ∧ cell.vm.isStatics = true ∧ cell.cls = c ∧ f.slot < cell.slots.size ∧ k.staticTypes[f.slot]? = some f.type ∧ ¬ A a
theorem vx_L.moved {C n d : String} {A : Nat → Prop} {u U : State} {H : Heap} (hvm : u.vm.Alike U.vm) (h : vx_L C n d A u H) : vx_L C n d A U H := by
  obtain ⟨c, k, i, f, a, cell, h1, h2, h3, h4, h5, h6, h7, h8, h9, h10⟩ := h
  obtain ⟨k', hi', he⟩ := State.fieldFound?_setVm hvm h2
  exact ⟨c, k', i, f, a, cell, by rw [hvm.findClass]; exact h1, hi', h3, by rw [he]; exact h4, h5, h6, h7, h8, by rw [he]; exact h9, h10⟩
theorem vx_L.kept {C n d : String} {A : Nat → Prop} {U : State} {H H1 : Heap} (h : vx_L C n d A U H) (hq : ∀ a : Nat, a < H.size → ¬ A a → H1[a]? = H[a]?) : vx_L C n d A U H1 := by
  obtain ⟨c, k, i, f, a, cell, h1, h2, h3, h4, h5, h6, h7, h8, h9, h10⟩ := h
  exact ⟨c, k, i, f, a, cell, h1, h2, h3, h4, by rw [hq a (Array.getElem?_eq_some_iff.mp h5).1 h10]; exact h5, h6, h7, h8, h9, h10⟩
theorem vx_L.narrow {C n d : String} {A B : Nat → Prop} {U : State} {H : Heap} (h : vx_L C n d A U H) (hAB : ∀ q, B q → A q) : vx_L C n d B U H := by
  obtain ⟨c, k, i, f, a, cell, h1, h2, h3, h4, h5, h6, h7, h8, h9, h10⟩ := h
  exact ⟨c, k, i, f, a, cell, h1, h2, h3, h4, h5, h6, h7, h8, h9, fun z => h10 (hAB _ z)⟩
theorem vx_L.word {C n d : String} {A : Nat → Prop} {s : State} {args : Array Value} (h : vx_L C n d A s s.heap) : (Cond.laysStatic C n d).before args s = true := by
  obtain ⟨c, k, i, f, a, cell, h1, h2, h3, h4, h5, h6, h7, h8, h9, -⟩ := h
  show (Cond.laysStatic C n d).holds args s none s [] = true
  exact Cond.laysStatic_of h1 h2 h3 h4 h5 h6 h7 h8 h9
/-- .. and what it holds: null or some reference -/
def vx_Zq (C n d : String) (A : Nat → Prop) (U : State) (H : Heap) : Prop := va_Zq C n d A U H ∧ vx_L C n d A U H
theorem vx_Zq.moved {C n d : String} {A : Nat → Prop} {u U : State} {H : Heap} (hvm : u.vm.Alike U.vm) (h : vx_Zq C n d A u H) : vx_Zq C n d A U H := ⟨va_Zq.moved hvm h.1, vx_L.moved hvm h.2⟩
theorem vx_Zq.kept {C n d : String} {A : Nat → Prop} {U : State} {H H1 : Heap} (h : vx_Zq C n d A U H) (hq : ∀ a : Nat, a < H.size → ¬ A a → H1[a]? = H[a]?) : vx_Zq C n d A U H1 := ⟨va_Zq.kept h.1 hq, vx_L.kept h.2 hq⟩
theorem vx_Zq.narrow {C n d : String} {A B : Nat → Prop} {U : State} {H : Heap} (h : vx_Zq C n d A U H) (hAB : ∀ q, B q → A q) : vx_Zq C n d B U H := ⟨va_Zq.narrow h.1 hAB, vx_L.narrow h.2 hAB⟩
theorem vx_Zqof {args : Array Value} {s : State} {C n d : String} {A : Nat → Prop} (hl : (Cond.laysStatic C n d).before args s = true) (hini : (Cond.initialized C).before args s = true) (h : (Cond.isRef (.static C n d)).before args s = true) (hA : ∀ a : Nat, a < s.heap.size → ¬ A a) : vx_Zq C n d A s s.heap := by
  refine ⟨va_Zqof hl hini h hA, ?_⟩
  obtain ⟨c, k, i, f, a, cell, h1, h2, h3, h4, h5, h6, h7, h8, h9⟩ := Cond.laysStatic_spec hl
  exact ⟨c, k, i, f, a, cell, h1, h2, h3, h4, h5, h6, h7, h8, h9, hA a (Array.getElem?_eq_some_iff.mp h5).1⟩
theorem vx_isRef {C n d : String} {v : Value} {A : Nat → Prop} {s : State} {args : Array Value} (h : va_Z C n d v A s s.heap) (hv : v.isRef = true) : (Cond.isRef (.static C n d)).before args s = true := by
  obtain ⟨cf, kf, fi, f, a, cell, h1, h2, h3, h4, h5, h6, h7, -⟩ := h
  have he : (Term.static C n d).eval args s none [] s = some v := by
    simp [Term.eval, State.fieldNamed?, h1, h2, h4, h5, h6, h7]
  simp only [Cond.before, Cond.holds, Cond.value, he]
  cases v <;> simp_all [Value.isRef]
theorem vx_isRefq {C n d : String} {A : Nat → Prop} {s : State} {args : Array Value} (h : va_Zq C n d A s s.heap) : (Cond.isRef (.static C n d)).before args s = true := by
  rcases h with h | ⟨t, h⟩
  · exact vx_isRef h rfl
  · exact vx_isRef h rfl
/-- the same frame, seen from here: as if the method were called anew in this heap -/
theorem vx_rebase {T : State} (X : Stand p l e R s m args below meth c T locs cells slots) {R' : Room} (hf : R'.frames ≤ R.frames) (hl : R'.locals ≤ R.locals) (hc : cells + R'.cells ≤ R.cells) (hs : slots + R'.slots ≤ R.slots) :
    Stand p l e R' ((T.setVm s.vm).setFrames (.invoking m args :: below)) m args below meth c T [] 0 0 := by
  have htop : (T.setVm s.vm).topJava?.isSome := X.here.top
  have hF : ((T.setVm s.vm).setFrames (.invoking m args :: below)).frames = .invoking m args :: below := State.frames_setFrames _ (State.cur_lt_of_top htop)
  obtain ⟨g₀, hg0⟩ := Option.isSome_iff_exists.mp htop
  obtain ⟨r, hr⟩ := State.topJava?_eq_some.mp hg0
  have hl9 : e.platform.stackLimits (T.setVm s.vm).me = e.platform.stackLimits s.me := X.limits
  have hb9 : (T.setVm s.vm).me.stackBytes = s.me.stackBytes := X.bytes
  refine ⟨X.admits, X.cas, X.clock, hF, ?_, X.hears, X.method, X.code, X.here, X.tail, X.warmed, ?_, ?_, ?_⟩
  · have h := X.room
    have hU : ((T.setVm s.vm).setFrames (.invoking m args :: below)).localsInUse = s.localsInUse := by
      rw [State.localsInUse_invoking hF (meth := meth) (c := c) X.method X.code, State.localsInUse_invoking X.frames X.method X.code]
    simp only [State.hasRoom, Bool.and_eq_true, decide_eq_true_eq] at h ⊢
    obtain ⟨⟨⟨⟨h1, h2, h3, h4, h5, h6⟩, h7⟩, h8⟩, h9⟩ := h
    rw [X.frames, List.length_cons] at h2 h3
    have q1 := X.heapSize
    have q2 := X.used
    simp only [hF, hU, List.length_cons, State.stackLimits_setFrames, State.stackBytes_setFrames, hl9, hb9]
    refine ⟨⟨⟨⟨by omega, by omega, by omega, by omega, by omega, h6⟩, ?_⟩, ?_⟩, X.book⟩
    · show T.heap.size + R'.cells ≤ e.platform.maxCells
      omega
    · show T.slotsUsed + R'.slots ≤ e.platform.maxSlots
      omega
  · rw [State.stackLimits_setFrames]; rfl
  · rw [State.stackBytes_setFrames]; rfl
  · refine ⟨?_, Nat.le_refl _, Nat.le_refl _, ?_, ?_, fun a c9 h9 => ⟨c9, h9, rfl, rfl, fun _ _ => rfl⟩⟩
    · obtain ⟨t, ht, -⟩ := State.frames_cons hr
      show T.setVm s.vm = { ((T.setVm s.vm).setFrames (.invoking m args :: below)).setFrames (T.setVm s.vm).frames with heap := T.heap, slotsUsed := T.slotsUsed }
      rw [State.setFrames_setFrames, State.setFrames_self ht]
      rfl
    · show T.slotsUsed = T.slotsUsed + ((T.heap.toList.drop T.heap.size).map (·.slots.size)).sum
      rw [List.drop_eq_nil_of_le (Nat.le_of_eq Array.length_toList)]
      rfl
    · show ((T.heap.toList.drop T.heap.size).map (·.slots.size)).sum ≤ 0
      rw [List.drop_eq_nil_of_le (Nat.le_of_eq Array.length_toList)]
      exact Nat.le_refl _
/-- 'throw new E()': new; dup; invokespecial; athrow -/
theorem vx_throw0 {cc : ByteArray} {pc : Nat} (hexec : p.tables.exec = Jvm.exec) (hb : c.code = cc) (hl : l.stackTraces = false) {own cls : String} {names : List String} {ik ic mc ms : Nat} {A : Nat → Prop}
    (hown : s.vm.findClass own = some m.cls) (hcls : Bundle.fit cls = true) (hnames : ∀ n ∈ names, Bundle.fit n = true)
    (hk : (Cond.classLink own ik cls).before args s = true) (hini : (Cond.initialized cls).before args s = true) (hat : ∀ w ∈ vx_at0 own ic cls names, w.before args s = true)
    (hgood : ∀ w ∈ Cond.classLink own ik cls :: Cond.initialized cls :: vx_at0 own ic cls names, vx_ot w = true)
    (hU : vx_Zq Bundle.tN "UNASSIGNED_STACK" Bundle.steD A s s.heap) (hN : vx_Zq Bundle.tN "SUPPRESSED_SENTINEL" Bundle.listD A s s.heap) (hS : va_S A s.heap H locs) (hsize : ls.size = c.maxLocals)
    (d0 : decode cc pc = .ok (.new ik, 3)) (d3 : decode cc (pc + 3) = .ok (.dup, 1)) (d4 : decode cc (pc + 4) = .ok (.invokespecial ic, 3)) (d7 : decode cc (pc + 7) = .ok (.athrow, 1))
    (hout : ∀ x ∈ c.exceptionTable.toList, covers x (pc + 7) = false)
    (hRframes : names.length + 3 < R.frames) (hRlocals : (rest.map fun v => v.category).sum + (13 * (names.length + 1) + 42) ≤ R.locals) (hRcells : cells + 1 ≤ R.cells) (hRslots : slots + 6 ≤ R.slots) (hlocks : meth.locks = false)
    (hx : ∀ t : State, s.vm.Alike t.vm → H.size ≤ t.heap.size → (∀ q : Nat, q < H.size → t.heap[q]? = H[q]?) → XC cls s t)
    (hf : ∀ z ∈ locs, free z.base) (hc : cells + 1 ≤ mc) (hs : slots + 6 ≤ ms) :
    W p l e R s m args below meth c H locs cells slots (vx_MQ below Qc XC args s mc ms free) (F0 m pc ls rest) := by
  intro T hT X
  have htr : e.platform.stackTraces = false := (show e.platform.stackTraces = l.stackTraces by rw [X.admits.platform]).trans hl
  have Y := vx_rebase X (R' := { frames := R.frames, locals := R.locals, cells := 1, slots := 6 }) (Nat.le_refl _) (Nat.le_refl _) hRcells hRslots
  obtain ⟨s', hA⟩ : ∃ z, z = (T.setVm s.vm).setFrames (.invoking m args :: below) := ⟨_, rfl⟩
  rw [← hA] at Y
  have hvm : s'.vm = s.vm := by rw [hA]; rfl
  have hhp : s'.heap = H := by rw [hA]; exact hT
  have hW0 : s.WarmedH s'.vm := by rw [hvm]; exact State.WarmedH.refl s
  have hat' : ∀ w ∈ vx_at0 own ic cls names, w.before args s' = true := fun w hw => vx_ot_at hW0 hvm.symm (hgood w (List.mem_cons_of_mem _ (List.mem_cons_of_mem _ hw))) (hat w hw)
  have hk' : (Cond.classLink own ik cls).before args s' = true := vx_ot_at hW0 hvm.symm (hgood _ List.mem_cons_self) hk
  have hini' : (Cond.initialized cls).before args s' = true := vx_ot_at hW0 hvm.symm (hgood _ (List.mem_cons_of_mem _ List.mem_cons_self)) hini
  have hU' : vx_Zq Bundle.tN "UNASSIGNED_STACK" Bundle.steD A s' s'.heap := by rw [hhp]; exact vx_Zq.moved hW0.alike (hU.kept hS.2.1)
  have hN' : vx_Zq Bundle.tN "SUPPRESSED_SENTINEL" Bundle.listD A s' s'.heap := by rw [hhp]; exact vx_Zq.moved hW0.alike (hN.kept hS.2.1)
  have h : ∀ w ∈ Bundle.ownAtoms0 own ic cls names, w.before args s' = true := vx_own hat' (vx_isRefq hU'.1) (vx_isRefq hN'.1) hU'.2.word hN'.2.word
  have hown' : s'.vm.findClass own = some m.cls := by rw [hvm]; exact hown
  have hins : (Cond.instantiable cls 6).before args s' = true := h _ (by simp [Bundle.ownAtoms0])
  obtain ⟨vm₁, cX, kX, hfX, hkX, -, -, X₁, st1⟩ := Y.newCold hexec (own := own) (C := cls) (index := ik) (n := 6) hown' hk' hins hini'
    (g := F0 m pc ls rest) rfl (by rw [hb]; exact d0) (Nat.le_refl _) (Nat.le_refl _)
  generalize hT1 : (T.setVm vm₁).pushCell { cls := cX, slots := kX.instanceTypes.map defaultValue, vm := .none } = T1 at X₁ st1
  have hcat : (Value.ref T.heap.size).category = 1 := rfl
  have hcellA : T1.heap[T.heap.size]? = some (freshCell cX kX) := by rw [← hT1]; exact State.heap_pushCell_size _ _
  have d3' : decode c.code (pc + 3) = .ok (.dup, 1) := by rw [hb]; exact d3
  obtain ⟨U, hsteps, hrun, hend, hW, hsame, ce, hce, hO⟩ := X₁.ctorThrow0 hexec htr (own := own) (cls := cls) (names := names) (ic := ic) hown' hcls hnames h (fun x hx => nomatch hx) hfX hkX hcellA (by rw [hhp, hT]; exact Nat.le_refl _)
    (g := { method := m, pc := pc + 4, locals := ls, stack := .ref T.heap.size :: .ref T.heap.size :: rest, locked := none }) rfl hsize rfl rfl (rest := rest) rfl
    (by rw [hb]; exact d4) (by rw [hb]; exact d7) hout hRframes (by simp only [List.map_cons, List.sum_cons, hcat]; omega) hlocks
  obtain ⟨f1, f2⟩ := vx_frame hsame
  rw [hhp] at f1 f2
  have hWs : s.WarmedH U.vm := State.WarmedH.trans hW0 hW
  have hcl : s.vm.findClass cls = some ce.cls := by
    have h9 := hO.cls
    rw [hvm] at h9
    exact h9
  have hall : s.sameButNew ({ U with vm := s.vm } : State) locs mc ms := by
    subst hA
    obtain ⟨e1, e2⟩ := hsame
    rw [State.setFrames_setFrames] at e1
    have h2 : (T.setVm s.vm).sameButNew ({ U with vm := s.vm } : State) [] (0 + 1) (0 + 6) := ⟨e1, e2⟩
    have h3 := X.same.trans h2
    rw [List.append_nil] at h3
    exact h3.mono hc hs
  refine ⟨U, ?_, .threw T.heap.size, hrun, hend, Or.inr ⟨T.heap.size, rfl, cls, ce, locs, hx U hWs.alike f1 (fun q hq => f2 q hq (fun z hz => nomatch hz)), hce, hO.vm, hcl, hWs, hall, hf⟩⟩
  refine st1 _ ?_
  show Steps p.tables e below (T1.setTop { method := m, pc := pc + 3, locals := ls, stack := .ref T.heap.size :: rest, locked := none }) _
  jvm_step X₁.here [X₁.here.top, hexec, d3', Value.category]
  exact hsteps
/-- 'throw new E("text")': new; dup; ldc; invokespecial; athrow -/
theorem vx_throwS {cc : ByteArray} {pc : Nat} (hexec : p.tables.exec = Jvm.exec) (hb : c.code = cc) (hl : l.stackTraces = false) {own cls text : String} {names : List String} {ik is ic mc ms sa : Nat} {A : Nat → Prop}
    (hown : s.vm.findClass own = some m.cls) (hcls : Bundle.fit cls = true) (hnames : ∀ n ∈ names, Bundle.fit n = true)
    (hk : (Cond.classLink own ik cls).before args s = true) (hini : (Cond.initialized cls).before args s = true) (hstr : vk_R own is text sa s) (hat : ∀ w ∈ vx_atS own ic cls names, w.before args s = true)
    (hgood : ∀ w ∈ Cond.classLink own ik cls :: Cond.initialized cls :: vx_atS own ic cls names, vx_ot w = true)
    (hU : vx_Zq Bundle.tN "UNASSIGNED_STACK" Bundle.steD A s s.heap) (hN : vx_Zq Bundle.tN "SUPPRESSED_SENTINEL" Bundle.listD A s s.heap) (hS : va_S A s.heap H locs) (hsize : ls.size = c.maxLocals)
    (d0 : decode cc pc = .ok (.new ik, 3)) (d3 : decode cc (pc + 3) = .ok (.dup, 1)) (d4 : decode cc (pc + 4) = .ok (.ldc is, 2)) (d6 : decode cc (pc + 6) = .ok (.invokespecial ic, 3)) (d9 : decode cc (pc + 9) = .ok (.athrow, 1))
    (hout : ∀ x ∈ c.exceptionTable.toList, covers x (pc + 9) = false)
    (hRframes : names.length + 3 < R.frames) (hRlocals : (rest.map fun v => v.category).sum + (13 * (names.length + 1) + 43) ≤ R.locals) (hRcells : cells + 1 ≤ R.cells) (hRslots : slots + 6 ≤ R.slots) (hlocks : meth.locks = false)
    (hx : ∀ t : State, s.vm.Alike t.vm → H.size ≤ t.heap.size → (∀ q : Nat, q < H.size → t.heap[q]? = H[q]?) → XC cls s t)
    (hf : ∀ z ∈ locs, free z.base) (hc : cells + 1 ≤ mc) (hs : slots + 6 ≤ ms) :
    W p l e R s m args below meth c H locs cells slots (vx_MQ below Qc XC args s mc ms free) (F0 m pc ls rest) := by
  intro T hT X
  have htr : e.platform.stackTraces = false := (show e.platform.stackTraces = l.stackTraces by rw [X.admits.platform]).trans hl
  have Y := vx_rebase X (R' := { frames := R.frames, locals := R.locals, cells := 1, slots := 6 }) (Nat.le_refl _) (Nat.le_refl _) hRcells hRslots
  obtain ⟨s', hA⟩ : ∃ z, z = (T.setVm s.vm).setFrames (.invoking m args :: below) := ⟨_, rfl⟩
  rw [← hA] at Y
  have hvm : s'.vm = s.vm := by rw [hA]; rfl
  have hhp : s'.heap = H := by rw [hA]; exact hT
  have hW0 : s.WarmedH s'.vm := by rw [hvm]; exact State.WarmedH.refl s
  have hat' : ∀ w ∈ vx_atS own ic cls names, w.before args s' = true := fun w hw => vx_ot_at hW0 hvm.symm (hgood w (List.mem_cons_of_mem _ (List.mem_cons_of_mem _ hw))) (hat w hw)
  have hk' : (Cond.classLink own ik cls).before args s' = true := vx_ot_at hW0 hvm.symm (hgood _ List.mem_cons_self) hk
  have hini' : (Cond.initialized cls).before args s' = true := vx_ot_at hW0 hvm.symm (hgood _ (List.mem_cons_of_mem _ List.mem_cons_self)) hini
  have hU' : vx_Zq Bundle.tN "UNASSIGNED_STACK" Bundle.steD A s' s'.heap := by rw [hhp]; exact vx_Zq.moved hW0.alike (hU.kept hS.2.1)
  have hN' : vx_Zq Bundle.tN "SUPPRESSED_SENTINEL" Bundle.listD A s' s'.heap := by rw [hhp]; exact vx_Zq.moved hW0.alike (hN.kept hS.2.1)
  have h : ∀ w ∈ Bundle.ownAtoms own ic cls names, w.before args s' = true := vx_own hat' (vx_isRefq hU'.1) (vx_isRefq hN'.1) hU'.2.word hN'.2.word
  have hown' : s'.vm.findClass own = some m.cls := by rw [hvm]; exact hown
  have hins : (Cond.instantiable cls 6).before args s' = true := h _ (by simp [Bundle.ownAtoms])
  obtain ⟨vm₁, cX, kX, hfX, hkX, -, -, X₁, st1⟩ := Y.newCold hexec (own := own) (C := cls) (index := ik) (n := 6) hown' hk' hins hini'
    (g := F0 m pc ls rest) rfl (by rw [hb]; exact d0) (Nat.le_refl _) (Nat.le_refl _)
  generalize hT1 : (T.setVm vm₁).pushCell { cls := cX, slots := kX.instanceTypes.map defaultValue, vm := .none } = T1 at X₁ st1
  have hcat : (Value.ref T.heap.size).category = 1 := rfl
  have hcellA : T1.heap[T.heap.size]? = some (freshCell cX kX) := by rw [← hT1]; exact State.heap_pushCell_size _ _
  have d3' : decode c.code (pc + 3) = .ok (.dup, 1) := by rw [hb]; exact d3
  have d4' : decode c.code (pc + 4) = .ok (.ldc is, 2) := by rw [hb]; exact d4
  have hstr' : vk_R own is text sa s' := vk_R.warm hW0 hstr
  obtain ⟨U, hsteps, hrun, hend, hW, hsame, ce, hce, hO⟩ := X₁.ctorThrowS hexec htr (own := own) (cls := cls) (names := names) (ic := ic) hown' hcls hnames h (fun x hx => nomatch hx) hfX hkX hcellA (by rw [hhp, hT]; exact Nat.le_refl _) (msg := .ref sa) rfl
    (g := { method := m, pc := pc + 6, locals := ls, stack := .ref sa :: .ref T.heap.size :: .ref T.heap.size :: rest, locked := none }) rfl hsize rfl rfl (rest := rest) rfl
    (by rw [hb]; exact d6) (by rw [hb]; exact d9) hout hRframes (by simp only [List.map_cons, List.sum_cons, hcat]; omega) hlocks
  obtain ⟨f1, f2⟩ := vx_frame hsame
  rw [hhp] at f1 f2
  have hWs : s.WarmedH U.vm := State.WarmedH.trans hW0 hW
  have hcl : s.vm.findClass cls = some ce.cls := by
    have h9 := hO.cls
    rw [hvm] at h9
    exact h9
  have hall : s.sameButNew ({ U with vm := s.vm } : State) locs mc ms := by
    subst hA
    obtain ⟨e1, e2⟩ := hsame
    rw [State.setFrames_setFrames] at e1
    have h2 : (T.setVm s.vm).sameButNew ({ U with vm := s.vm } : State) [] (0 + 1) (0 + 6) := ⟨e1, e2⟩
    have h3 := X.same.trans h2
    rw [List.append_nil] at h3
    exact h3.mono hc hs
  refine ⟨U, ?_, .threw T.heap.size, hrun, hend, Or.inr ⟨T.heap.size, rfl, cls, ce, locs, hx U hWs.alike f1 (fun q hq => f2 q hq (fun z hz => nomatch hz)), hce, hO.vm, hcl, hWs, hall, hf⟩⟩
  refine st1 _ ?_
  show Steps p.tables e below (T1.setTop { method := m, pc := pc + 3, locals := ls, stack := .ref T.heap.size :: rest, locked := none }) _
  jvm_step X₁.here [X₁.here.top, hexec, d3', Value.category]
  exact X₁.ldcString hexec (own := own) (text := text) (index := is) (a := sa) hown' hstr'.1 hstr'.2
    (g := { method := m, pc := pc + 4, locals := ls, stack := .ref T.heap.size :: .ref T.heap.size :: rest, locked := none }) rfl d4' _ hsteps
/-- 'throw new E("text")', the text by a wide index -/
theorem vx_throwSW {cc : ByteArray} {pc : Nat} (hexec : p.tables.exec = Jvm.exec) (hb : c.code = cc) (hl : l.stackTraces = false) {own cls text : String} {names : List String} {ik is ic mc ms sa : Nat} {A : Nat → Prop}
    (hown : s.vm.findClass own = some m.cls) (hcls : Bundle.fit cls = true) (hnames : ∀ n ∈ names, Bundle.fit n = true)
    (hk : (Cond.classLink own ik cls).before args s = true) (hini : (Cond.initialized cls).before args s = true) (hstr : vk_R own is text sa s) (hat : ∀ w ∈ vx_atS own ic cls names, w.before args s = true)
    (hgood : ∀ w ∈ Cond.classLink own ik cls :: Cond.initialized cls :: vx_atS own ic cls names, vx_ot w = true)
    (hU : vx_Zq Bundle.tN "UNASSIGNED_STACK" Bundle.steD A s s.heap) (hN : vx_Zq Bundle.tN "SUPPRESSED_SENTINEL" Bundle.listD A s s.heap) (hS : va_S A s.heap H locs) (hsize : ls.size = c.maxLocals)
    (d0 : decode cc pc = .ok (.new ik, 3)) (d3 : decode cc (pc + 3) = .ok (.dup, 1)) (d4 : decode cc (pc + 4) = .ok (.ldc_w is, 3)) (d7 : decode cc (pc + 7) = .ok (.invokespecial ic, 3)) (d10 : decode cc (pc + 10) = .ok (.athrow, 1))
    (hout : ∀ x ∈ c.exceptionTable.toList, covers x (pc + 10) = false)
    (hRframes : names.length + 3 < R.frames) (hRlocals : (rest.map fun v => v.category).sum + (13 * (names.length + 1) + 43) ≤ R.locals) (hRcells : cells + 1 ≤ R.cells) (hRslots : slots + 6 ≤ R.slots) (hlocks : meth.locks = false)
    (hx : ∀ t : State, s.vm.Alike t.vm → H.size ≤ t.heap.size → (∀ q : Nat, q < H.size → t.heap[q]? = H[q]?) → XC cls s t)
    (hf : ∀ z ∈ locs, free z.base) (hc : cells + 1 ≤ mc) (hs : slots + 6 ≤ ms) :
    W p l e R s m args below meth c H locs cells slots (vx_MQ below Qc XC args s mc ms free) (F0 m pc ls rest) := by
  intro T hT X
  have htr : e.platform.stackTraces = false := (show e.platform.stackTraces = l.stackTraces by rw [X.admits.platform]).trans hl
  have Y := vx_rebase X (R' := { frames := R.frames, locals := R.locals, cells := 1, slots := 6 }) (Nat.le_refl _) (Nat.le_refl _) hRcells hRslots
  obtain ⟨s', hA⟩ : ∃ z, z = (T.setVm s.vm).setFrames (.invoking m args :: below) := ⟨_, rfl⟩
  rw [← hA] at Y
  have hvm : s'.vm = s.vm := by rw [hA]; rfl
  have hhp : s'.heap = H := by rw [hA]; exact hT
  have hW0 : s.WarmedH s'.vm := by rw [hvm]; exact State.WarmedH.refl s
  have hat' : ∀ w ∈ vx_atS own ic cls names, w.before args s' = true := fun w hw => vx_ot_at hW0 hvm.symm (hgood w (List.mem_cons_of_mem _ (List.mem_cons_of_mem _ hw))) (hat w hw)
  have hk' : (Cond.classLink own ik cls).before args s' = true := vx_ot_at hW0 hvm.symm (hgood _ List.mem_cons_self) hk
  have hini' : (Cond.initialized cls).before args s' = true := vx_ot_at hW0 hvm.symm (hgood _ (List.mem_cons_of_mem _ List.mem_cons_self)) hini
  have hU' : vx_Zq Bundle.tN "UNASSIGNED_STACK" Bundle.steD A s' s'.heap := by rw [hhp]; exact vx_Zq.moved hW0.alike (hU.kept hS.2.1)
  have hN' : vx_Zq Bundle.tN "SUPPRESSED_SENTINEL" Bundle.listD A s' s'.heap := by rw [hhp]; exact vx_Zq.moved hW0.alike (hN.kept hS.2.1)
  have h : ∀ w ∈ Bundle.ownAtoms own ic cls names, w.before args s' = true := vx_own hat' (vx_isRefq hU'.1) (vx_isRefq hN'.1) hU'.2.word hN'.2.word
  have hown' : s'.vm.findClass own = some m.cls := by rw [hvm]; exact hown
  have hins : (Cond.instantiable cls 6).before args s' = true := h _ (by simp [Bundle.ownAtoms])
  obtain ⟨vm₁, cX, kX, hfX, hkX, -, -, X₁, st1⟩ := Y.newCold hexec (own := own) (C := cls) (index := ik) (n := 6) hown' hk' hins hini'
    (g := F0 m pc ls rest) rfl (by rw [hb]; exact d0) (Nat.le_refl _) (Nat.le_refl _)
  generalize hT1 : (T.setVm vm₁).pushCell { cls := cX, slots := kX.instanceTypes.map defaultValue, vm := .none } = T1 at X₁ st1
  have hcat : (Value.ref T.heap.size).category = 1 := rfl
  have hcellA : T1.heap[T.heap.size]? = some (freshCell cX kX) := by rw [← hT1]; exact State.heap_pushCell_size _ _
  have d3' : decode c.code (pc + 3) = .ok (.dup, 1) := by rw [hb]; exact d3
  have d4' : decode c.code (pc + 4) = .ok (.ldc_w is, 3) := by rw [hb]; exact d4
  have hstr' : vk_R own is text sa s' := vk_R.warm hW0 hstr
  obtain ⟨U, hsteps, hrun, hend, hW, hsame, ce, hce, hO⟩ := X₁.ctorThrowS hexec htr (own := own) (cls := cls) (names := names) (ic := ic) hown' hcls hnames h (fun x hx => nomatch hx) hfX hkX hcellA (by rw [hhp, hT]; exact Nat.le_refl _) (msg := .ref sa) rfl
    (g := { method := m, pc := pc + 7, locals := ls, stack := .ref sa :: .ref T.heap.size :: .ref T.heap.size :: rest, locked := none }) rfl hsize rfl rfl (rest := rest) rfl
    (by rw [hb]; exact d7) (by rw [hb]; exact d10) hout hRframes (by simp only [List.map_cons, List.sum_cons, hcat]; omega) hlocks
  obtain ⟨f1, f2⟩ := vx_frame hsame
  rw [hhp] at f1 f2
  have hWs : s.WarmedH U.vm := State.WarmedH.trans hW0 hW
  have hcl : s.vm.findClass cls = some ce.cls := by
    have h9 := hO.cls
    rw [hvm] at h9
    exact h9
  have hall : s.sameButNew ({ U with vm := s.vm } : State) locs mc ms := by
    subst hA
    obtain ⟨e1, e2⟩ := hsame
    rw [State.setFrames_setFrames] at e1
    have h2 : (T.setVm s.vm).sameButNew ({ U with vm := s.vm } : State) [] (0 + 1) (0 + 6) := ⟨e1, e2⟩
    have h3 := X.same.trans h2
    rw [List.append_nil] at h3
    exact h3.mono hc hs
  refine ⟨U, ?_, .threw T.heap.size, hrun, hend, Or.inr ⟨T.heap.size, rfl, cls, ce, locs, hx U hWs.alike f1 (fun q hq => f2 q hq (fun z hz => nomatch hz)), hce, hO.vm, hcl, hWs, hall, hf⟩⟩
  refine st1 _ ?_
  show Steps p.tables e below (T1.setTop { method := m, pc := pc + 3, locals := ls, stack := .ref T.heap.size :: rest, locked := none }) _
  jvm_step X₁.here [X₁.here.top, hexec, d3', Value.category]
  exact X₁.ldcStringW hexec (own := own) (text := text) (index := is) (a := sa) hown' hstr'.1 hstr'.2
    (g := { method := m, pc := pc + 4, locals := ls, stack := .ref T.heap.size :: .ref T.heap.size :: rest, locked := none }) rfl d4' _ hsteps
end Ends
section Bodies
variable {l : Launch}
theorem vx_ofW {y : MethodName} {ws ws' : List Cond} {rm : Room} {Pc : Array Value → State → Prop} {Qc : Array Value → State → Outcome → State → Prop} {XC : String → State → State → Prop} {mc ms : Nat} {free : Addr → Prop} {cc : ByteArray} {maxL : Nat} {ret : Option FieldType}
    (hy : plainName y.cls = true) (hw : ws = Cond.code y cc maxL ret :: ws')
    (body : ∀ p e s m args below meth c s₁, BodyLoose p l y (headSpec ws rm) cc maxL ret e s m args below meth c s₁ → c.maxLocals = maxL → (∀ x ∈ c.exceptionTable.toList, False) → Pc args s →
      W p l e (headSpec ws rm).room s m args below meth c s.heap [] 0 0 (vx_MQ below Qc XC args s mc ms free) (entryFrame m args maxL)) : vx_Met l y ws rm Pc Qc XC mc ms free := by
  refine MetFree.of_bodyS (code := cc) (maxLocals := maxL) (ret := ret) hy ?_ ?_
  · intro args s m h hn
    obtain ⟨meth, c, h1, h2, h3, h4, h5, h6, -, -⟩ := Cond.code_spec hn (atoms_spec (ws := ws) h _ (by rw [hw]; exact List.mem_cons_self))
    exact ⟨meth, c, h1, h2, h3, h4, h5, h6⟩
  · intro p e s m args below meth c s₁ B hml hP _
    have hh0 : s₁.heap = s.heap := by rw [B.state]; rfl
    have ht : ∀ x ∈ c.exceptionTable.toList, False := by
      obtain ⟨meth9, c9, h1, h2, -, -, -, -, h7, -⟩ := Cond.code_spec B.named (atoms_spec (ws := ws) B.pre _ (by rw [hw]; exact List.mem_cons_self))
      cases Option.some.inj (h1.symm.trans B.method)
      cases Option.some.inj (h2.symm.trans (Stand.of_body B).code)
      intro x hx
      rw [Array.isEmpty_iff.mp h7] at hx
      cases hx
    obtain ⟨t, a1, o, b1, b2, b3⟩ := body p e s m args below meth c s₁ B hml ht hP s₁ hh0 (Stand.of_body B)
    exact ⟨t, o, a1, b1, b2, b3⟩
/-- the table of a body with handlers -/
theorem vx_table {p : Program} {x y : MethodName} {S : Spec} {cc bytes : ByteArray} {maxL maxL' : Nat} {ret ret' : Option FieldType} {e : Env} {s s₁ : State} {m : MethodId} {args : Array Value} {below : List Frame} {meth : Method} {c : Code} {hh : List (Nat × Nat × Nat × Nat)}
    (B : BodyLoose p l y S cc maxL ret e s m args below meth c s₁) (h : (Cond.codeWith y bytes maxL' ret' hh).before args s = true) : c.exceptionTable.toList = tableOf hh := by
  obtain ⟨m9, meth9, c9, hn9, h1, h2, -, -, h6, -⟩ := Cond.codeWith_spec h
  cases Option.some.inj (hn9.symm.trans B.named)
  cases Option.some.inj (h1.symm.trans B.method)
  cases Option.some.inj (h2.symm.trans (Stand.of_body B).code)
  rw [← h6, table_eq]
end Bodies
end VXA
/-! ===== END ===== -/
/-! ===== BEGIN a static call of a method with an exception table ===== -/
section VXS
variable {p : Program} {l : Launch} {e : Env} {R : Room} {s : State} {m : MethodId} {args : Array Value} {below : List Frame} {meth : Method} {c : Code} {T : State} {H : Heap} {locs : List Loc} {cells slots : Nat}
abbrev vx_CSW (R : Room) (s : State) (args : Array Value) (own : String) (index : Nat) (y : MethodName) (bytes : ByteArray) (maxL : Nat) (ret : Option FieldType) (hh : List (Nat × Nat × Nat × Nat)) (ws : List Cond) (rm : Room) (mc ms n : Nat) : Prop :=
  (rm.cells = mc ∧ rm.slots = ms ∧ rm.frames + 1 ≤ R.frames ∧ 8 + (maxL + 11) + rm.locals ≤ R.locals ∧ (∀ w ∈ ws, ∀ (a' : Array Value) (U : State), s.WarmedH U.vm → w.before a' U = true) ∧ Cond.codeWith y bytes maxL ret hh ∈ ws) ∧
  (Cond.codeWith y bytes maxL ret hh).before args s = true ∧ (Cond.initialized y.cls).before args s = true ∧ (y.cls ≠ "java/lang/invoke/MethodHandle" ∧ y.cls ≠ "java/lang/invoke/VarHandle") ∧
  (∀ sig, parseMethodDescriptor y.desc = some sig → n = sig.parameters.length) ∧ (Cond.methodLink own index y).before args s = true ∧ (Cond.static y).before args s = true
theorem vx_cwSW {own : String} {index maxL mc ms : Nat} {y : MethodName} {bytes : ByteArray} {ret : Option FieldType} {hh : List (Nat × Nat × Nat × Nat)} {Ts ws ws' : List Cond} {rm : Room} (n : Nat) (ht : ∀ w ∈ Ts, w.before args s = true) (hT : GoodIn Ts (va_wsS own index y ws)) (hw : ws = Cond.codeWith y bytes maxL ret hh :: ws') (hrc : rm.cells = mc) (hrs : rm.slots = ms)
    (hd : y.cls ≠ "java/lang/invoke/MethodHandle" ∧ y.cls ≠ "java/lang/invoke/VarHandle" ∧ (parseMethodDescriptor y.desc).map (fun d => d.parameters.length) = some n) (hR : rm.frames + 1 ≤ R.frames ∧ 8 + (maxL + 11) + rm.locals ≤ R.locals) :
    vx_CSW R s args own index y bytes maxL ret hh ws rm mc ms n := by
  have ok : ∀ w ∈ va_wsS own index y ws, w.before args s = true := fun w h => ht w (hT w h).1
  have hG : GoodIn Ts ws := fun w h => hT w (by unfold va_wsS; exact List.mem_append_right _ h)
  have hc : Cond.codeWith y bytes maxL ret hh ∈ ws := by rw [hw]; exact List.mem_cons_self
  refine ⟨⟨hrc, hrs, hR.1, hR.2, pay_in ht hG, hc⟩, ht _ (hG _ hc).1, ok _ (by simp [va_wsS]), ⟨hd.1, hd.2.1⟩, fun sig h => ?_, ok _ (by simp [va_wsS]), ok _ (by simp [va_wsS])⟩
  have h2 := hd.2.2
  rw [h] at h2
  exact (Option.some.inj h2).symm
theorem vx_callSW (X : Stand p l e R s m args below meth c T locs cells slots) (hexec : p.tables.exec = Jvm.exec) {own : String} {index : Nat} {y : MethodName} {bytes : ByteArray} {maxL : Nat} {ret : Option FieldType} {hh : List (Nat × Nat × Nat × Nat)}
    (hown : s.vm.findClass own = some m.cls) (hlink : (Cond.methodLink own index y).before args s = true) (hstat : (Cond.static y).before args s = true) (hinit : (Cond.initialized y.cls).before args s = true)
    (hcode : (Cond.codeWith y bytes maxL ret hh).before args s = true) (hy : y.cls ≠ "java/lang/invoke/MethodHandle" ∧ y.cls ≠ "java/lang/invoke/VarHandle")
    {W9 : Nat} {Pre : Pt → Array Value → Prop} {Post : Pt → Array Value → Option Value → Pt → Prop} (hK : Back l R p e below s args y 3 W9 Pre Post)
    {g : JFrame} (hg : g.method = m) (hsize : g.locals.size = c.maxLocals) {argsL rest : List Value} (hlen : ∀ sig, parseMethodDescriptor y.desc = some sig → argsL.length = sig.parameters.length)
    (hstack : g.stack = argsL.reverse ++ rest) (hW : 2 * g.monitorRoom + (rest.map fun v => v.category).sum ≤ W9) (hdg : decode c.code g.pc = .ok (.invokestatic index, 3))
    (hpre : ∀ vm₁, s.WarmedH vm₁ → Pre ⟨T.setVm vm₁, locs, cells, slots⟩ argsL.toArray) :
    ∃ (v : Option Value) (vm₁ : Vm) (B : Pt), s.WarmedH vm₁ ∧ Stand p l e R s m args below meth c B.U B.locs B.cells B.slots ∧ Post ⟨T.setVm vm₁, locs, cells, slots⟩ argsL.toArray v B ∧
      ∀ target, Steps p.tables e below (B.U.setTop { g with pc := g.pc + 3, stack := v.toList ++ rest }) target → Steps p.tables e below (T.setTop g) target := by
  obtain ⟨mk, methM, cM, hnamed, hmethM, -, -, -, -, -, -, hsigM⟩ := Cond.codeWith_spec hcode
  have hstatic : methM.isStatic = true := Cond.static_spec hnamed hmethM hstat
  obtain ⟨kP, hkP, -⟩ := className_of_methodNamed hnamed
  have hinitP : kP.init = .initialized := Cond.initialized_spec (findClass_of_methodNamed hnamed) hkP hinit
  obtain ⟨vm₁, X₁, hstep₁⟩ := X.invokestatic hexec hown hlink hnamed hmethM hstatic hkP hinitP hy (g := g) hg (argsL := argsL) (rest := rest) (hlen _ hsigM) hstack hdg
  obtain ⟨v, B, X', hpost, hsteps⟩ := hK m meth c ⟨T.setVm vm₁, locs, cells, slots⟩ { g with stack := rest } (.invokestatic index) mk argsL.toArray X₁ hg hsize hdg hW (X₁.named hnamed) (hpre vm₁ X₁.warmed)
  exact ⟨v, vm₁, B, X₁.warmed, X', hpost, fun target h => hstep₁ _ fun acts => by rw [doInvoke_state]; exact hsteps.trans h⟩
theorem vx_runSW {y : MethodName} {bytes cc : ByteArray} {maxL nL mc ms n index : Nat} {ret : Option FieldType} {hh : List (Nat × Nat × Nat × Nat)} {ws : List Cond} {rm : Room} {Pc : Array Value → State → Prop} {Qc : Array Value → State → Outcome → State → Prop} {free : Addr → Prop} {Ts : List Cond} {own : String} {As rest : List Value} {g : JFrame}
    (S : CallFix p m c cc nL s args Ts own) (hM : Met l y ws rm Pc Qc mc ms free) (cw : vx_CSW R s args own index y bytes maxL ret hh ws rm mc ms n) (hp : PreS s H Pc As)
    (hg : g.method = m) (hn : As.length = n) (hsize : g.locals.size = nL) (hstack : g.stack = As.reverse ++ rest) (hW : 2 * g.monitorRoom + (rest.map fun v => v.category).sum ≤ 8) (hdg : decode cc g.pc = .ok (.invokestatic index, 3)) (hf : cells + mc ≤ R.cells ∧ slots + ms ≤ R.slots) :
    va_Run p l e R s m args below meth c H locs cells slots mc ms g rest (Qc As.toArray) (free) := by
  obtain ⟨⟨hrc, hrs, hfr, hlo, hws, hcw⟩, hcode, hini, hy, hlen, hl, hstt⟩ := cw
  have hK : Back l R p e below s args y 3 8 (PreOf R mc ms Pc) (PostOf Qc mc ms free) := va_backW (hh := hh) (bytes := bytes) (maxL := maxL) (ret := ret) hM hp.1 hrc hrs hfr hlo hws hcw (fun a' U hW => word_at hW (Or.inl (by first | rfl | simp [Cond.onTables, Cond.keeps, Cond.steady])) hini)
  obtain ⟨hx, hb, hml, ho, -⟩ := S
  intro T hT X
  obtain ⟨v, vm₁, ⟨U', l2, c2, s2⟩, hW₁, X', ⟨g', mk, t, L, e1, e2, hq, h1, hL, h2, h3⟩, st⟩ := vx_callSW X hx (hh := hh) (bytes := bytes) (maxL := maxL) (ret := ret) ho hl hstt hini hcode hy hK hg (hsize.trans hml.symm) (argsL := As) (rest := rest) (fun sig h => hn.trans (hlen sig h)) hstack hW (by rw [hb]; exact hdg)
    (fun vm₁ hW₁ => ⟨hf.1, hf.2, hp.2 (T.setVm vm₁) hT hW₁⟩)
  dsimp only [Pt.U, Pt.locs, Pt.cells, Pt.slots] at X' e1 e2 h1 h2 h3 st
  subst h1; subst h2; subst h3
  exact ⟨v, (T.setVm vm₁).calling g' mk As.toArray, t, U', L, hT, X', hL, e1, e2, hq, st⟩
/-- not caught here, past rows that name other classes: it goes on to the caller -/
theorem vx_outP {p : Program} {l : Launch} {e : Env} {R : Room} {s : State} {m : MethodId} {args : Array Value} {below : List Frame} {meth : Method} {c : Code} {H : Heap} {locs : List Loc} {cells slots : Nat} {free : Addr → Prop} {ls : Array Slot} {rest : List Value} {Qc : Array Value → State → Outcome → State → Prop} {XC : String → State → State → Prop}
    {pc : Nat} {own E : String} {ce : Cell} {q : Addr} {mc ms : Nat} (hown : s.vm.findClass own = some m.cls) (hlocks : meth.locks = false)
    (hpass : ∀ z ∈ c.exceptionTable.toList, covers z pc = false ∨ (z.catchType ≠ 0 ∧ ∃ nm : String, (Cond.classLink own z.catchType nm).before args s = true ∧ va_Nc E nm s)) (hcell : H[q]? = some ce) (hv : ce.vm = .none) (hcl : s.vm.findClass E = some ce.cls)
    (hx : ∀ t : State, t.heap = H → s.vm.Alike t.vm → XC E s t) (hf : ∀ z ∈ locs, free z.base) (hc : cells ≤ mc) (hs : slots ≤ ms) :
    vx_W p l e R s m args below meth c H locs cells slots (vx_MQ below Qc XC args s mc ms free) (F0 m pc ls rest) q := by
  intro T hT X
  have hpl : e.platform.magicAccessors = ({} : Platform).magicAccessors := by rw [X.admits.platform]
  obtain ⟨vm', hW', X', st⟩ := X.outThrough hlocks q (g := F0 m pc ls rest) rfl rfl rfl (cell := ce) (by rw [hT]; exact hcell) (by rw [hv]; rfl)
    (by obtain ⟨k9, h9, -⟩ := Vm.findClass_spec hcl; exact ⟨k9, h9⟩) (fun z hz => by
      rcases hpass z hz with h | ⟨hz0, nm, hl1, hn1⟩
      · exact Or.inl h
      · obtain ⟨c6, hc6, hcl6⟩ := Cond.classLink_spec hown hl1 e.platform hpl
        obtain ⟨a8, b8, h1, h2, h3⟩ := hn1
        cases Option.some.inj (h1.symm.trans hcl)
        cases Option.some.inj (h2.symm.trans hc6)
        exact Or.inr ⟨hz0, _, hcl6, h3⟩)
  obtain ⟨g₀, hfr⟩ := X'.frames_eq
  have hcell9 : ((T.setVm vm').setFrames (.throwing q :: below)).heap[q]? = some ce := by
    show T.heap[q]? = some ce
    rw [hT]; exact hcell
  have hend : Ended ((T.setVm vm').setFrames (.throwing q :: below)) below (.threw q) := State.frames_setFrames _ (State.cur_lt_of_frames hfr)
  refine ⟨(T.setVm vm').setFrames (.throwing q :: below), ?_, .threw q, X'.here.running, hend, Or.inr ⟨q, rfl, E, ce, locs, hx _ hT (X'.ends _).1.alike, hcell9, hv, hcl, (X'.ends _).1, (X'.ends _).2.mono hc hs, hf⟩⟩
  rw [X.pushThrowing_eq]
  exact st
/-- a thing of a world lies in the heap -/
theorem vx_lt {D : va_G} {cl : List vw_C} {ws : va_W} {H1 : Heap} (h : va_P D cl ws H1) {k : Nat} {q : Nat × va_E} (hk : ws[k]? = some q) : q.1 < H1.size := (h k q hk).lt
end VXS
/-! ===== END ===== -/
/-! ===== BEGIN methods with a table of their own: called by a name, returning or throwing ===== -/
section VXH
/-! vx_backW, vx_callVX, vx_callSX, vx_callVW, vx_runVW, vx_runVX, vx_runSX, vx_ofWH follow the same proofs as their sisters above (Free/Laws.lean, Shelf42/LK1.lean); vx_outP calls Shelf42/NT130.lean (outThrough). -/
section
variable {l : Launch} {R : Room} {p : Program} {e : Env} {below : List Frame} {s : State} {sargs : Array Value} {y : MethodName} {len W9 : Nat}
theorem vx_backW {ws : List Cond} {rm : Room} {Pc : Array Value → State → Prop} {Qc : Array Value → State → Outcome → State → Prop} {XC : String → State → State → Prop} {mc ms : Nat} {free : Addr → Prop} {bytes : ByteArray} {maxL : Nat} {ret : Option FieldType} {hh : List (Nat × Nat × Nat × Nat)}
    (hM : vx_Met l y ws rm Pc Qc XC mc ms free) (hblind : FrameBlind Pc) (hrc : rm.cells = mc) (hrs : rm.slots = ms)
    (hframes : rm.frames + 1 ≤ R.frames) (hlocals : W9 + (maxL + 11) + rm.locals ≤ R.locals)
    (hws : ∀ w ∈ ws, ∀ a' U, s.WarmedH U.vm → w.before a' U = true) (hcode : Cond.codeWith y bytes maxL ret hh ∈ ws) (hinit : ∀ a' U, s.WarmedH U.vm → (Cond.initialized y.cls).before a' U = true) :
    vx_Back l R p e below s sargs y len W9 (PreOf R mc ms Pc) (PostOf Qc mc ms free) (vx_Post XC mc ms free) := by
  intro m meth c A g ig mk a X hg hsize hdg hW hn hp
  have h1 : (headSpec ws rm).pre.before a A.U = true := atoms_intro fun w hw => hws w hw _ _ X.warmed
  have h2 : (Cond.codeWith y bytes maxL ret hh).before a A.U = true := hws _ hcode _ _ X.warmed
  have h3 : (Cond.initialized y.cls).before a A.U = true := hinit _ _ X.warmed
  have h4 : A.cells + (headSpec ws rm).room.cells ≤ R.cells := by rw [show (headSpec ws rm).room.cells = mc from hrc]; exact hp.1
  have h5 : A.slots + (headSpec ws rm).room.slots ≤ R.slots := by rw [show (headSpec ws rm).room.slots = ms from hrs]; exact hp.2.1
  have hPc : Pc a (A.U.calling g mk a) := hblind _ _ _ _ hp.2.2
  obtain ⟨U, Ls, c0, s0⟩ := A
  dsimp only [Pt.U, Pt.locs, Pt.cells, Pt.slots] at h1 h2 h3 h4 h5 X hn hPc ⊢
  obtain ⟨m9, methY, cY, hn9, hmY, hcY, -, hlY, -⟩ := Cond.codeWith_spec h2
  cases Option.some.inj (hn9.symm.trans hn)
  obtain ⟨kY, hkY, -⟩ := className_of_methodNamed hn
  have hinitY : kY.init = .initialized := Cond.initialized_spec (findClass_of_methodNamed hn) hkY h3
  have h : At U g.method c below := by rw [hg]; exact X.here
  have hlocals9 : W9 + (maxL + 11) + (headSpec ws rm).room.locals ≤ R.locals := hlocals
  have happ : (headSpec ws rm).appliesLoose y e.platform (U.calling g mk a) = true :=
    Spec.appliesLoose_calling (g := g) h hdg hn hkY hinitY
      (X.room_calling (g := g) (R' := (headSpec ws rm).room) hsize hmY hcY hframes (by rw [hlY]; omega) h4 h5) h1
  obtain ⟨mid, hmid⟩ := h.above
  have hfr : (U.setTop g).frames = (.java g :: mid) ++ below := by rw [State.frames_setTop' g h.top, hmid]; rfl
  obtain ⟨o, s₂, hsteps, -, hend, hq⟩ := Steps.callFree hM p X.admits X.cas X.clock (acts := []) hfr happ hPc trivial
  have hq' : vx_Q Qc XC mc ms free a (U.calling g mk a) o s₂ := hq
  rw [State.frames_setTop' g h.top] at hend
  obtain ⟨g₀, hg0⟩ := Option.isSome_iff_exists.mp h.top
  obtain ⟨r, hr⟩ := State.topJava?_eq_some.mp hg0
  have hr' : (({ U with heap := s₂.heap, slotsUsed := s₂.slotsUsed } : State).setVm s₂.vm).frames = .java g₀ :: r := hr
  rcases hq' with ⟨hqc, L, hfe, hL⟩ | ⟨q, rfl, E, ce, L, hx, hce, hcv, hcl, hW₂, hsm, hL⟩
  · obtain ⟨⟨v, rfl⟩, hW₂, e2, q2, q3, q4, q5, q6⟩ := id hfe
    have e3 : s₂ = ({ (U.calling g mk a).setFrames s₂.frames with heap := s₂.heap, slotsUsed := s₂.slotsUsed } : State).setVm s₂.vm := by
      have : s₂ = ({ s₂ with vm := (U.calling g mk a).vm } : State).setVm s₂.vm := rfl
      rw [e2] at this
      exact this
    obtain ⟨c₂, i₂, len₂, hc₂, hd₂, hf₂⟩ := hend
    have hW' : U.WarmedH s₂.vm := hW₂
    have hcc : c₂ = c := by
      have h1 : s₂.code? g.method = U.code? g.method := by
        rw [State.code?_eq, State.code?_eq, hW'.alike.method?]
      exact Option.some.inj (hc₂.symm.trans (h1.trans h.code))
    subst hcc
    have hlen : len₂ = len := by rw [hdg] at hd₂; cases hd₂; rfl
    subst hlen
    have hs₂ : s₂ = (({ U with heap := s₂.heap, slotsUsed := s₂.slotsUsed } : State).setVm s₂.vm).setTop { g with pc := g.pc + len₂, stack := v.toList ++ g.stack } := by
      refine e3.trans ?_
      rw [hf₂, State.calling_eq h.top, State.setFrames_setFrames, State.setTop_of_frames _ hr', hr]
      rfl
    have hsame : U.sameButNew ({ U with heap := s₂.heap, slotsUsed := s₂.slotsUsed } : State) L mc ms := by
      refine ⟨?_, q2, q3, q4, q5, q6⟩
      obtain ⟨t, ht, -⟩ := State.frames_cons hr
      show ({ U with heap := s₂.heap, slotsUsed := s₂.slotsUsed } : State) = { U.setFrames U.frames with heap := s₂.heap, slotsUsed := s₂.slotsUsed }
      rw [State.setFrames_self ht]
    subst hg
    refine Or.inl ⟨v, ⟨(({ U with heap := s₂.heap, slotsUsed := s₂.slotsUsed } : State).setVm s₂.vm), Ls ++ L, c0 + mc, s0 + ms⟩,
      ⟨X.admits, X.cas, X.clock, X.frames, X.room, X.hears, X.method, X.code, (X.here.setHeapUsed s₂.heap s₂.slotsUsed).setVm hW'.alike, X.tail, State.WarmedH.trans X.warmed hW', X.limits, X.bytes, X.same.trans (hsame.setVm s.vm)⟩,
      ⟨g, mk, s₂, L, rfl, rfl, hqc, rfl, hL, rfl, rfl⟩, ?_⟩
    show Steps p.tables e below _ ((({ U with heap := s₂.heap, slotsUsed := s₂.slotsUsed } : State).setVm s₂.vm).setTop { g with pc := g.pc + len₂, stack := v.toList ++ g.stack })
    rw [← hs₂]
    exact hsteps
  · obtain ⟨e2, q2, q3, q4, q5, q6⟩ := id hsm
    have e3 : s₂ = ({ (U.calling g mk a).setFrames s₂.frames with heap := s₂.heap, slotsUsed := s₂.slotsUsed } : State).setVm s₂.vm := by
      have : s₂ = ({ s₂ with vm := (U.calling g mk a).vm } : State).setVm s₂.vm := rfl
      rw [e2] at this
      exact this
    have hf₂ : s₂.frames = .throwing q :: .java g :: U.frames.tail := hend
    have hW' : U.WarmedH s₂.vm := hW₂
    have hs₂ : s₂ = ((({ U with heap := s₂.heap, slotsUsed := s₂.slotsUsed } : State).setVm s₂.vm).setTop g).pushFrame (.throwing q) := by
      refine e3.trans ?_
      rw [hf₂, State.calling_eq h.top, State.setFrames_setFrames, State.pushFrame, State.frames_setTop _ hr', State.setTop_of_frames _ hr', State.setFrames_setFrames, hr]
      rfl
    have hsame : U.sameButNew ({ U with heap := s₂.heap, slotsUsed := s₂.slotsUsed } : State) L mc ms := by
      refine ⟨?_, q2, q3, q4, q5, q6⟩
      obtain ⟨t, ht, -⟩ := State.frames_cons hr
      show ({ U with heap := s₂.heap, slotsUsed := s₂.slotsUsed } : State) = { U.setFrames U.frames with heap := s₂.heap, slotsUsed := s₂.slotsUsed }
      rw [State.setFrames_self ht]
    subst hg
    refine Or.inr ⟨q, ⟨(({ U with heap := s₂.heap, slotsUsed := s₂.slotsUsed } : State).setVm s₂.vm), Ls ++ L, c0 + mc, s0 + ms⟩,
      ⟨X.admits, X.cas, X.clock, X.frames, X.room, X.hears, X.method, X.code, (X.here.setHeapUsed s₂.heap s₂.slotsUsed).setVm hW'.alike, X.tail, State.WarmedH.trans X.warmed hW', X.limits, X.bytes, X.same.trans (hsame.setVm s.vm)⟩,
      ⟨g, mk, s₂, L, E, ce, rfl, rfl, hx, hce, hcv, hcl, rfl, hL, rfl, rfl⟩, ?_⟩
    show Steps p.tables e below _ (((({ U with heap := s₂.heap, slotsUsed := s₂.slotsUsed } : State).setVm s₂.vm).setTop g).pushFrame (.throwing q))
    rw [← hs₂]
    exact hsteps
end
variable {p : Program} {l : Launch} {e : Env} {R : Room} {s : State} {m : MethodId} {args : Array Value} {below : List Frame} {meth : Method} {c : Code} {T : State} {H : Heap} {locs : List Loc} {cells slots : Nat}
theorem vx_callVX (X : Stand p l e R s m args below meth c T locs cells slots) (hexec : p.tables.exec = Jvm.exec) {own C : String} {index : Nat} {y : MethodName} {bytes : ByteArray} {maxL : Nat} {ret : Option FieldType} {hh : List (Nat × Nat × Nat × Nat)}
    (hown : s.vm.findClass own = some m.cls) (hlink : (Cond.methodLink own index y).before args s = true) (hinst : (Cond.instanceMethod y).before args s = true) (hsel : (Cond.selects C y y).before args s = true)
    (hcode : (Cond.codeWith y bytes maxL ret hh).before args s = true) (hy : y.cls ≠ "java/lang/invoke/MethodHandle" ∧ y.cls ≠ "java/lang/invoke/VarHandle")
    {W9 : Nat} {Pre : Pt → Array Value → Prop} {Post : Pt → Array Value → Option Value → Pt → Prop} {PostX : Pt → Array Value → Addr → Pt → Prop} (hK : vx_Back l R p e below s args y 3 W9 Pre Post PostX)
    {b : Addr} {cellB : Cell} (hcell : T.heap[b]? = some cellB) (hobj : cellB.vm.isStatics = false) (hcls : s.vm.findClass C = some cellB.cls)
    {g : JFrame} (hg : g.method = m) (hsize : g.locals.size = c.maxLocals) {argsL rest : List Value} (hlen : ∀ sig, parseMethodDescriptor y.desc = some sig → argsL.length = sig.parameters.length)
    (hstack : g.stack = argsL.reverse ++ .ref b :: rest) (hW : 2 * g.monitorRoom + (rest.map fun v => v.category).sum ≤ W9) (hdg : decode c.code g.pc = .ok (.invokevirtual index, 3))
    (hpre : ∀ vm₁, s.WarmedH vm₁ → Pre ⟨T.setVm vm₁, locs, cells, slots⟩ (Value.ref b :: argsL).toArray) :
    (∃ (v : Option Value) (vm₁ : Vm) (B : Pt), s.WarmedH vm₁ ∧ Stand p l e R s m args below meth c B.U B.locs B.cells B.slots ∧ Post ⟨T.setVm vm₁, locs, cells, slots⟩ (Value.ref b :: argsL).toArray v B ∧
      ∀ target, Steps p.tables e below (B.U.setTop { g with pc := g.pc + 3, stack := v.toList ++ rest }) target → Steps p.tables e below (T.setTop g) target) ∨
    (∃ (q : Addr) (vm₁ : Vm) (B : Pt), s.WarmedH vm₁ ∧ Stand p l e R s m args below meth c B.U B.locs B.cells B.slots ∧ PostX ⟨T.setVm vm₁, locs, cells, slots⟩ (Value.ref b :: argsL).toArray q B ∧
      Steps p.tables e below (T.setTop g) ((B.U.setTop { g with stack := rest }).pushFrame (.throwing q))) := by
  obtain ⟨mk, methM, hnamed, hmethM, hstM, habM⟩ := Cond.instanceMethod_spec hinst
  obtain ⟨m8, methM', cM, hn8, hmethM', -, -, -, -, -, -, hsigM⟩ := Cond.codeWith_spec hcode
  cases Option.some.inj (hn8.symm.trans hnamed)
  cases hmethM.symm.trans hmethM'
  obtain ⟨c2, r2, m2, q1, q2, q3, q4, kP, hkP, hkPi⟩ := Cond.selects_spec hsel
  cases hcls.symm.trans q1
  cases (State.methodFound?_of_named hnamed hy).symm.trans q2
  cases hnamed.symm.trans q3
  have hselP : selectMethod e.platform s.vm cellB.cls mk = .method mk := by rw [Launch.admits_selectMethod X.admits]; exact q4
  obtain ⟨vm₁, X₁, hstep₁⟩ := X.invokevirtual hexec hown hlink hnamed hmethM hstM hkP hkPi hy (a := b) (cell := cellB) hcell
    (fun z h => by rw [h] at hobj; cases hobj) hselP hmethM habM hkP hkPi (g := g) hg (argsL := argsL) (rest := rest) (hlen _ hsigM) hstack hdg
  rcases hK m meth c ⟨T.setVm vm₁, locs, cells, slots⟩ { g with stack := rest } (.invokevirtual index) mk (Value.ref b :: argsL).toArray X₁ hg hsize hdg hW (X₁.named hnamed) (hpre vm₁ X₁.warmed) with ⟨v, B, X', hpost, hsteps⟩ | ⟨q, B, X', hpost, hsteps⟩
  · exact Or.inl ⟨v, vm₁, B, X₁.warmed, X', hpost, fun target h => hstep₁ _ fun acts => by rw [doInvoke_state]; exact hsteps.trans h⟩
  · exact Or.inr ⟨q, vm₁, B, X₁.warmed, X', hpost, hstep₁ _ fun acts => by rw [doInvoke_state]; exact hsteps⟩
theorem vx_callSX (X : Stand p l e R s m args below meth c T locs cells slots) (hexec : p.tables.exec = Jvm.exec) {own : String} {index : Nat} {y : MethodName} {bytes : ByteArray} {maxL : Nat} {ret : Option FieldType} {hh : List (Nat × Nat × Nat × Nat)}
    (hown : s.vm.findClass own = some m.cls) (hlink : (Cond.methodLink own index y).before args s = true) (hstat : (Cond.static y).before args s = true) (hinit : (Cond.initialized y.cls).before args s = true)
    (hcode : (Cond.codeWith y bytes maxL ret hh).before args s = true) (hy : y.cls ≠ "java/lang/invoke/MethodHandle" ∧ y.cls ≠ "java/lang/invoke/VarHandle")
    {W9 : Nat} {Pre : Pt → Array Value → Prop} {Post : Pt → Array Value → Option Value → Pt → Prop} {PostX : Pt → Array Value → Addr → Pt → Prop} (hK : vx_Back l R p e below s args y 3 W9 Pre Post PostX)
    {g : JFrame} (hg : g.method = m) (hsize : g.locals.size = c.maxLocals) {argsL rest : List Value} (hlen : ∀ sig, parseMethodDescriptor y.desc = some sig → argsL.length = sig.parameters.length)
    (hstack : g.stack = argsL.reverse ++ rest) (hW : 2 * g.monitorRoom + (rest.map fun v => v.category).sum ≤ W9) (hdg : decode c.code g.pc = .ok (.invokestatic index, 3))
    (hpre : ∀ vm₁, s.WarmedH vm₁ → Pre ⟨T.setVm vm₁, locs, cells, slots⟩ argsL.toArray) :
    (∃ (v : Option Value) (vm₁ : Vm) (B : Pt), s.WarmedH vm₁ ∧ Stand p l e R s m args below meth c B.U B.locs B.cells B.slots ∧ Post ⟨T.setVm vm₁, locs, cells, slots⟩ argsL.toArray v B ∧
      ∀ target, Steps p.tables e below (B.U.setTop { g with pc := g.pc + 3, stack := v.toList ++ rest }) target → Steps p.tables e below (T.setTop g) target) ∨
    (∃ (q : Addr) (vm₁ : Vm) (B : Pt), s.WarmedH vm₁ ∧ Stand p l e R s m args below meth c B.U B.locs B.cells B.slots ∧ PostX ⟨T.setVm vm₁, locs, cells, slots⟩ argsL.toArray q B ∧
      Steps p.tables e below (T.setTop g) ((B.U.setTop { g with stack := rest }).pushFrame (.throwing q))) := by
  obtain ⟨mk, methM, cM, hnamed, hmethM, -, -, -, -, -, -, hsigM⟩ := Cond.codeWith_spec hcode
  have hstatic : methM.isStatic = true := Cond.static_spec hnamed hmethM hstat
  obtain ⟨kP, hkP, -⟩ := className_of_methodNamed hnamed
  have hinitP : kP.init = .initialized := Cond.initialized_spec (findClass_of_methodNamed hnamed) hkP hinit
  obtain ⟨vm₁, X₁, hstep₁⟩ := X.invokestatic hexec hown hlink hnamed hmethM hstatic hkP hinitP hy (g := g) hg (argsL := argsL) (rest := rest) (hlen _ hsigM) hstack hdg
  rcases hK m meth c ⟨T.setVm vm₁, locs, cells, slots⟩ { g with stack := rest } (.invokestatic index) mk argsL.toArray X₁ hg hsize hdg hW (X₁.named hnamed) (hpre vm₁ X₁.warmed) with ⟨v, B, X', hpost, hsteps⟩ | ⟨q, B, X', hpost, hsteps⟩
  · exact Or.inl ⟨v, vm₁, B, X₁.warmed, X', hpost, fun target h => hstep₁ _ fun acts => by rw [doInvoke_state]; exact hsteps.trans h⟩
  · exact Or.inr ⟨q, vm₁, B, X₁.warmed, X', hpost, hstep₁ _ fun acts => by rw [doInvoke_state]; exact hsteps⟩
theorem vx_callVW (X : Stand p l e R s m args below meth c T locs cells slots) (hexec : p.tables.exec = Jvm.exec) {own C : String} {index : Nat} {y : MethodName} {bytes : ByteArray} {maxL : Nat} {ret : Option FieldType} {hh : List (Nat × Nat × Nat × Nat)}
    (hown : s.vm.findClass own = some m.cls) (hlink : (Cond.methodLink own index y).before args s = true) (hinst : (Cond.instanceMethod y).before args s = true) (hsel : (Cond.selects C y y).before args s = true)
    (hcode : (Cond.codeWith y bytes maxL ret hh).before args s = true) (hy : y.cls ≠ "java/lang/invoke/MethodHandle" ∧ y.cls ≠ "java/lang/invoke/VarHandle")
    {W9 : Nat} {Pre : Pt → Array Value → Prop} {Post : Pt → Array Value → Option Value → Pt → Prop} (hK : Back l R p e below s args y 3 W9 Pre Post)
    {b : Addr} {cellB : Cell} (hcell : T.heap[b]? = some cellB) (hobj : cellB.vm.isStatics = false) (hcls : s.vm.findClass C = some cellB.cls)
    {g : JFrame} (hg : g.method = m) (hsize : g.locals.size = c.maxLocals) {argsL rest : List Value} (hlen : ∀ sig, parseMethodDescriptor y.desc = some sig → argsL.length = sig.parameters.length)
    (hstack : g.stack = argsL.reverse ++ .ref b :: rest) (hW : 2 * g.monitorRoom + (rest.map fun v => v.category).sum ≤ W9) (hdg : decode c.code g.pc = .ok (.invokevirtual index, 3))
    (hpre : ∀ vm₁, s.WarmedH vm₁ → Pre ⟨T.setVm vm₁, locs, cells, slots⟩ (Value.ref b :: argsL).toArray) :
    ∃ (v : Option Value) (vm₁ : Vm) (B : Pt), s.WarmedH vm₁ ∧ Stand p l e R s m args below meth c B.U B.locs B.cells B.slots ∧ Post ⟨T.setVm vm₁, locs, cells, slots⟩ (Value.ref b :: argsL).toArray v B ∧
      ∀ target, Steps p.tables e below (B.U.setTop { g with pc := g.pc + 3, stack := v.toList ++ rest }) target → Steps p.tables e below (T.setTop g) target := by
  obtain ⟨mk, methM, hnamed, hmethM, hstM, habM⟩ := Cond.instanceMethod_spec hinst
  obtain ⟨m8, methM', cM, hn8, hmethM', -, -, -, -, -, -, hsigM⟩ := Cond.codeWith_spec hcode
  cases Option.some.inj (hn8.symm.trans hnamed)
  cases hmethM.symm.trans hmethM'
  obtain ⟨c2, r2, m2, q1, q2, q3, q4, kP, hkP, hkPi⟩ := Cond.selects_spec hsel
  cases hcls.symm.trans q1
  cases (State.methodFound?_of_named hnamed hy).symm.trans q2
  cases hnamed.symm.trans q3
  have hselP : selectMethod e.platform s.vm cellB.cls mk = .method mk := by rw [Launch.admits_selectMethod X.admits]; exact q4
  obtain ⟨vm₁, X₁, hstep₁⟩ := X.invokevirtual hexec hown hlink hnamed hmethM hstM hkP hkPi hy (a := b) (cell := cellB) hcell
    (fun z h => by rw [h] at hobj; cases hobj) hselP hmethM habM hkP hkPi (g := g) hg (argsL := argsL) (rest := rest) (hlen _ hsigM) hstack hdg
  obtain ⟨v, B, X', hpost, hsteps⟩ := hK m meth c ⟨T.setVm vm₁, locs, cells, slots⟩ { g with stack := rest } (.invokevirtual index) mk (Value.ref b :: argsL).toArray X₁ hg hsize hdg hW (X₁.named hnamed) (hpre vm₁ X₁.warmed)
  exact ⟨v, vm₁, B, X₁.warmed, X', hpost, fun target h => hstep₁ _ fun acts => by rw [doInvoke_state]; exact hsteps.trans h⟩
abbrev vx_CVW (R : Room) (s : State) (args : Array Value) (own C : String) (index : Nat) (y : MethodName) (bytes : ByteArray) (maxL : Nat) (ret : Option FieldType) (hh : List (Nat × Nat × Nat × Nat)) (ws : List Cond) (rm : Room) (mc ms n : Nat) : Prop :=
  (rm.cells = mc ∧ rm.slots = ms ∧ rm.frames + 1 ≤ R.frames ∧ 8 + (maxL + 11) + rm.locals ≤ R.locals ∧ (∀ w ∈ ws, ∀ (a' : Array Value) (U : State), s.WarmedH U.vm → w.before a' U = true) ∧ Cond.codeWith y bytes maxL ret hh ∈ ws) ∧
  (Cond.codeWith y bytes maxL ret hh).before args s = true ∧ (Cond.initialized y.cls).before args s = true ∧ (y.cls ≠ "java/lang/invoke/MethodHandle" ∧ y.cls ≠ "java/lang/invoke/VarHandle") ∧
  (∀ sig, parseMethodDescriptor y.desc = some sig → n = sig.parameters.length) ∧ (Cond.methodLink own index y).before args s = true ∧ (Cond.instanceMethod y).before args s = true ∧ (Cond.selects C y y).before args s = true
theorem vx_cwVW {own C : String} {index maxL mc ms : Nat} {y : MethodName} {bytes : ByteArray} {ret : Option FieldType} {hh : List (Nat × Nat × Nat × Nat)} {Ts ws ws' : List Cond} {rm : Room} (n : Nat) (ht : ∀ w ∈ Ts, w.before args s = true) (hT : GoodIn Ts (wsV own index C y ws)) (hw : ws = Cond.codeWith y bytes maxL ret hh :: ws') (hrc : rm.cells = mc) (hrs : rm.slots = ms)
    (hd : y.cls = C ∧ y.cls ≠ "java/lang/invoke/MethodHandle" ∧ y.cls ≠ "java/lang/invoke/VarHandle" ∧ (parseMethodDescriptor y.desc).map (fun d => d.parameters.length) = some n) (hR : rm.frames + 1 ≤ R.frames ∧ 8 + (maxL + 11) + rm.locals ≤ R.locals) :
    vx_CVW R s args own C index y bytes maxL ret hh ws rm mc ms n := by
  obtain ⟨hC, hd⟩ := hd
  subst hC
  have ok : ∀ w ∈ wsV own index y.cls y ws, w.before args s = true := fun w h => ht w (hT w h).1
  have hG : GoodIn Ts ws := fun w h => hT w (by unfold wsV; exact List.mem_append_right _ h)
  have hc : Cond.codeWith y bytes maxL ret hh ∈ ws := by rw [hw]; exact List.mem_cons_self
  refine ⟨⟨hrc, hrs, hR.1, hR.2, pay_in ht hG, hc⟩, ht _ (hG _ hc).1, ok _ (by simp [wsV]), ⟨hd.1, hd.2.1⟩, fun sig h => ?_, ok _ (by simp [wsV]), ok _ (by simp [wsV]), ok _ (by simp [wsV])⟩
  have h2 := hd.2.2
  rw [h] at h2
  exact (Option.some.inj h2).symm
theorem vx_runVW {y : MethodName} {bytes cc : ByteArray} {maxL nL mc ms n index : Nat} {ret : Option FieldType} {hh : List (Nat × Nat × Nat × Nat)} {ws : List Cond} {rm : Room} {Pc : Array Value → State → Prop} {Qc : Array Value → State → Outcome → State → Prop} {free : Addr → Prop} {Ts : List Cond} {own C : String} {b : Addr} {As rest : List Value} {g : JFrame}
    (S : CallFix p m c cc nL s args Ts own) (hM : Met l y ws rm Pc Qc mc ms free) (cw : vx_CVW R s args own C index y bytes maxL ret hh ws rm mc ms n) (hp : PreV s H C b Pc As)
    (hg : g.method = m) (hn : As.length = n) (hsize : g.locals.size = nL) (hstack : g.stack = As.reverse ++ .ref b :: rest) (hW : 2 * g.monitorRoom + (rest.map fun v => v.category).sum ≤ 8) (hdg : decode cc g.pc = .ok (.invokevirtual index, 3)) (hf : cells + mc ≤ R.cells ∧ slots + ms ≤ R.slots) :
    va_Run p l e R s m args below meth c H locs cells slots mc ms g rest (Qc (Value.ref b :: As).toArray) free := by
  obtain ⟨⟨hrc, hrs, hfr, hlo, hws, hcw⟩, hcode, hini, hy, hlen, hl, hin, hse⟩ := cw
  have hK : Back l R p e below s args y 3 8 (PreOf R mc ms Pc) (PostOf Qc mc ms free) := va_backW (hh := hh) (bytes := bytes) (maxL := maxL) (ret := ret) hM hp.1 hrc hrs hfr hlo hws hcw (fun a' U hW => word_at hW (Or.inl (by first | rfl | simp [Cond.onTables, Cond.keeps, Cond.steady])) hini)
  obtain ⟨hx, hb, hml, ho, -⟩ := S
  obtain ⟨-, ⟨cellB, hcB, hoB, hclB⟩, hPc⟩ := hp
  intro T hT X
  obtain ⟨v, vm₁, ⟨U', l2, c2, s2⟩, hW₁, X', ⟨g', mk, t, L, e1, e2, hq, h1, hL, h2, h3⟩, st⟩ := vx_callVW X hx (C := C) (hh := hh) (bytes := bytes) (maxL := maxL) (ret := ret) ho hl hin hse hcode hy hK (by rw [hT]; exact hcB) hoB hclB hg (hsize.trans hml.symm) (argsL := As) (rest := rest) (fun sig h => hn.trans (hlen sig h)) hstack hW (by rw [hb]; exact hdg)
    (fun vm₁ hW₁ => ⟨hf.1, hf.2, hPc (T.setVm vm₁) hT hW₁⟩)
  dsimp only [Pt.U, Pt.locs, Pt.cells, Pt.slots] at X' e1 e2 h1 h2 h3 st
  subst h1; subst h2; subst h3
  exact ⟨v, (T.setVm vm₁).calling g' mk (Value.ref b :: As).toArray, t, U', L, hT, X', hL, e1, e2, hq, st⟩
section
variable {y : MethodName} {bytes cc : ByteArray} {maxL nL mc ms n index : Nat} {ret : Option FieldType} {ws : List Cond} {rm : Room} {Pc : Array Value → State → Prop} {Qc : Array Value → State → Outcome → State → Prop} {XC : String → State → State → Prop} {free : Addr → Prop} {Ts : List Cond} {own C : String} {b : Addr} {As rest : List Value} {g : JFrame}
theorem vx_runVX {hh : List (Nat × Nat × Nat × Nat)} (S : CallFix p m c cc nL s args Ts own) (hM : vx_Met l y ws rm Pc Qc XC mc ms free) (cw : vx_CVW R s args own C index y bytes maxL ret hh ws rm mc ms n) (hp : PreV s H C b Pc As)
    (hg : g.method = m) (hn : As.length = n) (hsize : g.locals.size = nL) (hstack : g.stack = As.reverse ++ .ref b :: rest) (hW : 2 * g.monitorRoom + (rest.map fun v => v.category).sum ≤ 8) (hdg : decode cc g.pc = .ok (.invokevirtual index, 3)) (hf : cells + mc ≤ R.cells ∧ slots + ms ≤ R.slots) :
    vx_Run p l e R s m args below meth c H locs cells slots mc ms g rest (Qc (Value.ref b :: As).toArray) XC free := by
  obtain ⟨⟨hrc, hrs, hfr, hlo, hws, hcw⟩, hcode, hini, hy, hlen, hl, hin, hse⟩ := cw
  have hK : vx_Back l R p e below s args y 3 8 (PreOf R mc ms Pc) (PostOf Qc mc ms free) (vx_Post XC mc ms free) := vx_backW (hh := hh) (bytes := bytes) (maxL := maxL) (ret := ret) hM hp.1 hrc hrs hfr hlo hws hcw (fun a' U hW => word_at hW (Or.inl (by first | rfl | simp [Cond.onTables, Cond.keeps, Cond.steady])) hini)
  obtain ⟨hx, hb, hml, ho, -⟩ := S
  obtain ⟨-, ⟨cellB, hcB, hoB, hclB⟩, hPc⟩ := hp
  intro T hT X
  rcases vx_callVX X hx (C := C) (hh := hh) (bytes := bytes) (maxL := maxL) (ret := ret) ho hl hin hse hcode hy hK (by rw [hT]; exact hcB) hoB hclB hg (hsize.trans hml.symm) (argsL := As) (rest := rest) (fun sig h => hn.trans (hlen sig h)) hstack hW (by rw [hb]; exact hdg)
    (fun vm₁ hW₁ => ⟨hf.1, hf.2, hPc (T.setVm vm₁) hT hW₁⟩) with ⟨v, vm₁, ⟨U', l2, c2, s2⟩, hW₁, X', ⟨g', mk, t, L, e1, e2, hq, h1, hL, h2, h3⟩, st⟩ | ⟨q, vm₁, ⟨U', l2, c2, s2⟩, hW₁, X', ⟨g', mk, t, L, E, ce, e1, e2, hq, hce, hcv, hcl, h1, hL, h2, h3⟩, st⟩
  · dsimp only [Pt.U, Pt.locs, Pt.cells, Pt.slots] at X' e1 e2 h1 h2 h3 st
    subst h1; subst h2; subst h3
    exact Or.inl ⟨v, (T.setVm vm₁).calling g' mk (Value.ref b :: As).toArray, t, U', L, hT, X', hL, e1, e2, hq, st⟩
  · dsimp only [Pt.U, Pt.locs, Pt.cells, Pt.slots] at X' e1 e2 h1 h2 h3 st hcl
    subst h1; subst h2; subst h3
    exact Or.inr ⟨q, (T.setVm vm₁).calling g' mk (Value.ref b :: As).toArray, t, U', L, E, ce, hT, X', hL, e1, e2, hq, hce, hcv, vx_cls hW₁ hcl, st⟩
theorem vx_runSX {hh : List (Nat × Nat × Nat × Nat)} (S : CallFix p m c cc nL s args Ts own) (hM : vx_Met l y ws rm Pc Qc XC mc ms free) (cw : vx_CSW R s args own index y bytes maxL ret hh ws rm mc ms n) (hp : PreS s H Pc As)
    (hg : g.method = m) (hn : As.length = n) (hsize : g.locals.size = nL) (hstack : g.stack = As.reverse ++ rest) (hW : 2 * g.monitorRoom + (rest.map fun v => v.category).sum ≤ 8) (hdg : decode cc g.pc = .ok (.invokestatic index, 3)) (hf : cells + mc ≤ R.cells ∧ slots + ms ≤ R.slots) :
    vx_Run p l e R s m args below meth c H locs cells slots mc ms g rest (Qc As.toArray) XC free := by
  obtain ⟨⟨hrc, hrs, hfr, hlo, hws, hcw⟩, hcode, hini, hy, hlen, hl, hstt⟩ := cw
  have hK : vx_Back l R p e below s args y 3 8 (PreOf R mc ms Pc) (PostOf Qc mc ms free) (vx_Post XC mc ms free) := vx_backW (hh := hh) (bytes := bytes) (maxL := maxL) (ret := ret) hM hp.1 hrc hrs hfr hlo hws hcw (fun a' U hW => word_at hW (Or.inl (by first | rfl | simp [Cond.onTables, Cond.keeps, Cond.steady])) hini)
  obtain ⟨hx, hb, hml, ho, -⟩ := S
  intro T hT X
  rcases vx_callSX X hx (hh := hh) (bytes := bytes) (maxL := maxL) (ret := ret) ho hl hstt hini hcode hy hK hg (hsize.trans hml.symm) (argsL := As) (rest := rest) (fun sig h => hn.trans (hlen sig h)) hstack hW (by rw [hb]; exact hdg)
    (fun vm₁ hW₁ => ⟨hf.1, hf.2, hp.2 (T.setVm vm₁) hT hW₁⟩) with ⟨v, vm₁, ⟨U', l2, c2, s2⟩, hW₁, X', ⟨g', mk, t, L, e1, e2, hq, h1, hL, h2, h3⟩, st⟩ | ⟨q, vm₁, ⟨U', l2, c2, s2⟩, hW₁, X', ⟨g', mk, t, L, E, ce, e1, e2, hq, hce, hcv, hcl, h1, hL, h2, h3⟩, st⟩
  · dsimp only [Pt.U, Pt.locs, Pt.cells, Pt.slots] at X' e1 e2 h1 h2 h3 st
    subst h1; subst h2; subst h3
    exact Or.inl ⟨v, (T.setVm vm₁).calling g' mk As.toArray, t, U', L, hT, X', hL, e1, e2, hq, st⟩
  · dsimp only [Pt.U, Pt.locs, Pt.cells, Pt.slots] at X' e1 e2 h1 h2 h3 st hcl
    subst h1; subst h2; subst h3
    exact Or.inr ⟨q, (T.setVm vm₁).calling g' mk As.toArray, t, U', L, E, ce, hT, X', hL, e1, e2, hq, hce, hcv, vx_cls hW₁ hcl, st⟩
end
end VXH
theorem vx_ofWH {l : Launch} {y : MethodName} {ws ws' : List Cond} {rm : Room} {Pc : Array Value → State → Prop} {Qc : Array Value → State → Outcome → State → Prop} {XC : String → State → State → Prop} {mc ms : Nat} {free : Addr → Prop} {cc : ByteArray} {maxL : Nat} {ret : Option FieldType} {hh : List (Nat × Nat × Nat × Nat)}
    (hy : plainName y.cls = true) (hw : ws = Cond.codeWith y cc maxL ret hh :: ws')
    (body : ∀ p e s m args below meth c s₁, BodyLoose p l y (headSpec ws rm) cc maxL ret e s m args below meth c s₁ → c.maxLocals = maxL → Pc args s →
      W p l e (headSpec ws rm).room s m args below meth c s.heap [] 0 0 (vx_MQ below Qc XC args s mc ms free) (entryFrame m args maxL)) : vx_Met l y ws rm Pc Qc XC mc ms free := by
  refine MetFree.of_bodyS (code := cc) (maxLocals := maxL) (ret := ret) hy ?_ ?_
  · intro args s m h hn
    obtain ⟨m9, meth, c, hn9, h1, h2, h3, h4, -, h5, h6, -⟩ := Cond.codeWith_spec (atoms_spec (ws := ws) h _ (by rw [hw]; exact List.mem_cons_self))
    cases hn.symm.trans hn9
    exact ⟨meth, c, h1, h2, h3, h4, h5, h6⟩
  · intro p e s m args below meth c s₁ B hml hP _
    have hh0 : s₁.heap = s.heap := by rw [B.state]; rfl
    obtain ⟨t, a1, o, b1, b2, b3⟩ := body p e s m args below meth c s₁ B hml hP s₁ hh0 (Stand.of_body B)
    exact ⟨t, o, a1, b1, b2, b3⟩
/-! ===== END ===== -/
end
section
/-! worlds as functions of a state: contracts, calls, returns, said once for any world -/
/-- what a method finds: the cells w, the tables, the statics E -/
def gB (D : va_G) (cl : List vw_C) (tys : List (ClassId × FieldType)) (E : (Nat → Prop) → State → Heap → Prop) (w : va_W) (sz : Nat) (U : State) : Prop :=
  U.heap.size = sz ∧ va_P D cl w U.heap ∧ va_K D cl tys U ∧ va_D (fun _ => True) w ∧ E (va_A w sz) U U.heap
/-- what it leaves -/
def gAt (D : va_G) (cl : List vw_C) (tys : List (ClassId × FieldType)) {S : Type} (w : S → va_W) (A : Nat → Prop) (u : S) (t : State) : Prop :=
  va_P D cl (w u) t.heap ∧ va_K D cl tys t ∧ va_D A (w u)
/-- statics that stay -/
def gE (E : (Nat → Prop) → State → Heap → Prop) : Prop :=
  (∀ (A : Nat → Prop) (u U : State) (H : Heap), u.WarmedH U.vm → E A u H → E A U H) ∧
  (∀ (A : Nat → Prop) (U : State) (H H1 : Heap), (∀ a : Nat, a < H.size → ¬ A a → H1[a]? = H[a]?) → E A U H → E A U H1) ∧
  (∀ (A B : Nat → Prop) (U : State) (H : Heap), (∀ q, B q → A q) → E A U H → E B U H)
theorem gB_blind {D : va_G} {cl : List vw_C} {tys : List (ClassId × FieldType)} {E : (Nat → Prop) → State → Heap → Prop} (hg : gE E) {w : va_W} {sz : Nat} {av : List Value} : FrameBlind (va_Pc av (gB D cl tys E w sz)) := by
  intro a U g mk q
  obtain ⟨q0, q1, qP, qK, qD, qE⟩ := q
  exact ⟨q0, q1, qP, va_K.moved (u := U) (U := U.calling g mk a) (Vm.Alike.refl U.vm) qK, qD, hg.1 _ U (U.calling g mk a) _ (State.WarmedH.refl U) qE⟩
theorem g_free {A : Nat → Prop} {w : va_W} {H0 H : Heap} {locs : List Loc} (hD : va_D A w) (hS : va_S A H0 H locs) (hA : ∀ q, H0.size ≤ q → A q) : ∀ q, va_A w H.size q → A q := by
  intro q h
  rcases h with ⟨k, e, h⟩ | h
  · exact hD.2 k (q, e) h
  · exact hA q (Nat.le_trans hS.1 h)
theorem gB_pre {D : va_G} {cl : List vw_C} {tys : List (ClassId × FieldType)} {E : (Nat → Prop) → State → Heap → Prop} (hg : gE E) {s : State} {A : Nat → Prop} {w : va_W} {H : Heap} {locs : List Loc} {av : List Value} (hP : va_P D cl w H) (hK : va_K D cl tys s) (hD : va_D A w) (hE : E A s s.heap) (hS : va_S A s.heap H locs) (hA : ∀ q, s.heap.size ≤ q → A q) :
    ∀ U : State, U.heap = H → s.WarmedH U.vm → va_Pc av (gB D cl tys E w H.size) av.toArray U := by
  intro U hU hW
  refine ⟨rfl, by rw [hU], by rw [hU]; exact hP, va_K.moved hW.alike hK, hD.weaken (fun _ _ _ _ => trivial), ?_⟩
  rw [hU]
  exact hg.1 _ s U _ hW (hg.2.2 A _ s H (g_free hD hS hA) (hg.2.1 A s s.heap H hS.2.1 hE))
section GC
variable {p : Program} {l : Launch} {e : Env} {R : Room} {s : State} {m : MethodId} {args : Array Value} {below : List Frame} {meth : Method} {c : Code} {H : Heap} {locs : List Loc} {cells slots : Nat} {Q : State → Prop}
variable {cc : ByteArray} {pc : Nat} {ls : Array Slot} {rest st0 : List Value} {a : Array Value} {A : Nat → Prop} {mc ms : Nat} {D : va_G} {cl : List vw_C} {tys : List (ClassId × FieldType)} {S : Type} {w : S → va_W} {u : S}
theorem gc_i {post : Int32 → S → Prop} (hr : va_Run p l e R s m args below meth c H locs cells slots mc ms (F0 m pc ls st0) rest (va_Qi post (gAt D cl tys w (va_A (w u) H.size)) (va_A (w u) H.size) a) (va_A (w u) H.size)) (hD : va_D A (w u)) (hS : va_S A s.heap H locs) (hA : ∀ q, s.heap.size ≤ q → A q)
    (kk : ∀ (r : Int32) (u1 : S) (H1 : Heap) (locs1 : List Loc), post r u1 → va_P D cl (w u1) H1 → va_D A (w u1) → va_S A s.heap H1 locs1 → W p l e R s m args below meth c H1 locs1 (cells + mc) (slots + ms) Q (F0 m (pc + 3) ls (.int r :: rest))) : W p l e R s m args below meth c H locs cells slots Q (F0 m pc ls st0) := by
  have hF := g_free hD hS hA
  refine va_calli hr hS (fun q _ h => hF q h) hF (fun r u t H1 locs ht hvm hw hB hz1 hk1 hS => ?_)
  obtain ⟨hP1, hK1, hD1⟩ := hB
  rw [ht] at hP1
  exact kk r u H1 locs hw hP1 (hD1.weaken (fun k q _ h => hF q.1 h)) hS
theorem gc_d {post : UInt64 → S → Prop} (hr : va_Run p l e R s m args below meth c H locs cells slots mc ms (F0 m pc ls st0) rest (va_Qd post (gAt D cl tys w (va_A (w u) H.size)) (va_A (w u) H.size) a) (va_A (w u) H.size)) (hD : va_D A (w u)) (hS : va_S A s.heap H locs) (hA : ∀ q, s.heap.size ≤ q → A q)
    (kk : ∀ (r : UInt64) (u1 : S) (H1 : Heap) (locs1 : List Loc), post r u1 → va_P D cl (w u1) H1 → va_D A (w u1) → va_S A s.heap H1 locs1 → W p l e R s m args below meth c H1 locs1 (cells + mc) (slots + ms) Q (F0 m (pc + 3) ls (.double r :: rest))) : W p l e R s m args below meth c H locs cells slots Q (F0 m pc ls st0) := by
  have hF := g_free hD hS hA
  refine va_calld hr hS (fun q _ h => hF q h) hF (fun r u t H1 locs ht hvm hw hB hz1 hk1 hS => ?_)
  obtain ⟨hP1, hK1, hD1⟩ := hB
  rw [ht] at hP1
  exact kk r u H1 locs hw hP1 (hD1.weaken (fun k q _ h => hF q.1 h)) hS
theorem gc_v {post : S → Prop} (hr : va_Run p l e R s m args below meth c H locs cells slots mc ms (F0 m pc ls st0) rest (va_Qv post (gAt D cl tys w (va_A (w u) H.size)) (va_A (w u) H.size) a) (va_A (w u) H.size)) (hD : va_D A (w u)) (hS : va_S A s.heap H locs) (hA : ∀ q, s.heap.size ≤ q → A q)
    (kk : ∀ (u1 : S) (H1 : Heap) (locs1 : List Loc), post u1 → va_P D cl (w u1) H1 → va_D A (w u1) → va_S A s.heap H1 locs1 → W p l e R s m args below meth c H1 locs1 (cells + mc) (slots + ms) Q (F0 m (pc + 3) ls rest)) : W p l e R s m args below meth c H locs cells slots Q (F0 m pc ls st0) := by
  have hF := g_free hD hS hA
  refine va_callv hr hS (fun q _ h => hF q h) hF (fun u t H1 locs ht hvm hw hB hz1 hk1 hS => ?_)
  obtain ⟨hP1, hK1, hD1⟩ := hB
  rw [ht] at hP1
  exact kk u H1 locs hw hP1 (hD1.weaken (fun k q _ h => hF q.1 h)) hS
theorem gc_q {post : Option Nat → S → Prop} (hr : va_Run p l e R s m args below meth c H locs cells slots mc ms (F0 m pc ls st0) rest (va_Qq post (gAt D cl tys w (va_A (w u) H.size)) (va_A (w u) H.size) a) (va_A (w u) H.size)) (hD : va_D A (w u)) (hS : va_S A s.heap H locs) (hA : ∀ q, s.heap.size ≤ q → A q)
    (kk : ∀ (r : Option Nat) (u1 : S) (H1 : Heap) (locs1 : List Loc), post r u1 → va_P D cl (w u1) H1 → va_D A (w u1) → va_S A s.heap H1 locs1 → W p l e R s m args below meth c H1 locs1 (cells + mc) (slots + ms) Q (F0 m (pc + 3) ls (va_rf r :: rest))) : W p l e R s m args below meth c H locs cells slots Q (F0 m pc ls st0) := by
  have hF := g_free hD hS hA
  refine va_callq hr hS (fun q _ h => hF q h) hF (fun r u t H1 locs ht hvm hw hB hz1 hk1 hS => ?_)
  obtain ⟨hP1, hK1, hD1⟩ := hB
  rw [ht] at hP1
  exact kk r u H1 locs hw hP1 (hD1.weaken (fun k q _ h => hF q.1 h)) hS
/-- returns -/
theorem gr_i {post : Int32 → S → Prop} {v : Int32} (hx : p.tables.exec = Jvm.exec) (hb : c.code = cc) (hr : meth.sig.returnType = some .int) (hlocks : meth.locks = false) (h : post v u) (hP : va_P D cl (w u) H) (hK : va_K D cl tys s) (hD : va_D A (w u)) (hS : va_S A s.heap H locs) (hdg : decode cc pc = .ok (.ireturn, 1)) : W p l e R s m args below meth c H locs cells slots (MQ below (va_Qi post (gAt D cl tys w A) A) args s cells slots A) (F0 m pc ls [.int v]) :=
  W.iret hx hb hr (fun t ht hW => ⟨⟨v, u, rfl, h, by rw [ht]; exact hP, va_K.moved hW.alike hK, hD⟩, hS.F ht⟩) hS.2.2 hdg
theorem gr_z {post : Int32 → S → Prop} {v : Int32} (hx : p.tables.exec = Jvm.exec) (hb : c.code = cc) (hr : meth.sig.returnType = some .boolean) (hlocks : meth.locks = false) (hn : narrow .boolean (.int v) = .int v) (h : post v u) (hP : va_P D cl (w u) H) (hK : va_K D cl tys s) (hD : va_D A (w u)) (hS : va_S A s.heap H locs) (hdg : decode cc pc = .ok (.ireturn, 1)) : W p l e R s m args below meth c H locs cells slots (MQ below (va_Qi post (gAt D cl tys w A) A) args s cells slots A) (F0 m pc ls [.int v]) :=
  W.zret hx hb hr hn (fun t ht hW => ⟨⟨v, u, rfl, h, by rw [ht]; exact hP, va_K.moved hW.alike hK, hD⟩, hS.F ht⟩) hS.2.2 hdg
theorem gr_d {post : UInt64 → S → Prop} {v : UInt64} (hx : p.tables.exec = Jvm.exec) (hb : c.code = cc) (hr : meth.sig.returnType = some .double) (hlocks : meth.locks = false) (h : post v u) (hP : va_P D cl (w u) H) (hK : va_K D cl tys s) (hD : va_D A (w u)) (hS : va_S A s.heap H locs) (hdg : decode cc pc = .ok (.dreturn, 1)) : W p l e R s m args below meth c H locs cells slots (MQ below (va_Qd post (gAt D cl tys w A) A) args s cells slots A) (F0 m pc ls [.double v]) :=
  W.dret hx hb hr (fun t ht hW => ⟨⟨v, u, rfl, h, by rw [ht]; exact hP, va_K.moved hW.alike hK, hD⟩, hS.F ht⟩) hS.2.2 hdg
theorem gr_v {post : S → Prop} (hx : p.tables.exec = Jvm.exec) (hb : c.code = cc) (hr : meth.sig.returnType = none) (hlocks : meth.locks = false) (h : post u) (hP : va_P D cl (w u) H) (hK : va_K D cl tys s) (hD : va_D A (w u)) (hS : va_S A s.heap H locs) (hdg : decode cc pc = .ok (.return_, 1)) : W p l e R s m args below meth c H locs cells slots (MQ below (va_Qv post (gAt D cl tys w A) A) args s cells slots A) (F0 m pc ls []) :=
  W.vret hx hb hr (fun t ht hW => ⟨⟨u, rfl, h, by rw [ht]; exact hP, va_K.moved hW.alike hK, hD⟩, hS.F ht⟩) hS.2.2 hdg
theorem gr_q {post : Option Nat → S → Prop} {v : Option Nat} {n : String} (hx : p.tables.exec = Jvm.exec) (hb : c.code = cc) (hr : meth.sig.returnType = some (.object n)) (hlocks : meth.locks = false) (h : post v u) (hP : va_P D cl (w u) H) (hK : va_K D cl tys s) (hD : va_D A (w u)) (hS : va_S A s.heap H locs) (hdg : decode cc pc = .ok (.areturn, 1)) : W p l e R s m args below meth c H locs cells slots (MQ below (va_Qq post (gAt D cl tys w A) A) args s cells slots A) (F0 m pc ls [va_rf v]) :=
  W.aret hx hb hr (Or.inl ⟨n, rfl⟩) (va_rf_or v) (fun t ht hW => ⟨⟨v, u, rfl, h, by rw [ht]; exact hP, va_K.moved hW.alike hK, hD⟩, hS.F ht⟩) hS.2.2 hdg
/-- references that may be null: named, loaded, stored -/
theorem gq_top {r : Option Nat} (k : ∀ y : Option Nat, y = r → W p l e R s m args below meth c H locs cells slots Q (F0 m pc ls (va_rf y :: rest))) : W p l e R s m args below meth c H locs cells slots Q (F0 m pc ls (va_rf r :: rest)) := k r rfl
theorem gq_aload_n (hx : p.tables.exec = Jvm.exec) (hb : c.code = cc) {k : Fin 4} {i : Nat} {r : Option Nat} (hdg : decode cc pc = .ok (.aload_n k, 1)) (hi : (k : Nat) = i) (hl : ls[i]? = some (.val (va_rf r)))
    (kk : W p l e R s m args below meth c H locs cells slots Q (F0 m (pc + 1) ls (va_rf r :: rest))) : W p l e R s m args below meth c H locs cells slots Q (F0 m pc ls rest) := by
  cases r with
  | none => exact lv_aload_nN hx hb hdg hi hl kk
  | some y => exact lv_aload_n hx hb hdg hi hl kk
theorem gq_aload (hx : p.tables.exec = Jvm.exec) (hb : c.code = cc) {i : Nat} {r : Option Nat} (hdg : decode cc pc = .ok (.aload i, 2)) (hl : ls[i]? = some (.val (va_rf r)))
    (kk : W p l e R s m args below meth c H locs cells slots Q (F0 m (pc + 2) ls (va_rf r :: rest))) : W p l e R s m args below meth c H locs cells slots Q (F0 m pc ls rest) := by
  cases r with
  | none => exact lv_aloadN hx hb hdg hl kk
  | some y => exact lv_aload hx hb hdg hl kk
theorem gq_astore_n (hx : p.tables.exec = Jvm.exec) (hb : c.code = cc) {k : Fin 4} {i nL : Nat} {r : Option Nat} {lv lv' : List (Nat × Value)} (hdg : decode cc pc = .ok (.astore_n k, 1)) (hi : (k : Nat) = i) (h : lv_has ls nL lv) (hn : i < nL) (hl : (i, va_rf r) :: lv.filter (fun q => !(q.1 == i) && !(q.1 + 1 == i && q.2.category == 2)) = lv')
    (kk : ∀ ls' : Array Slot, lv_has ls' nL lv' → W p l e R s m args below meth c H locs cells slots Q (F0 m (pc + 1) ls' rest)) : W p l e R s m args below meth c H locs cells slots Q (F0 m pc ls (va_rf r :: rest)) := by
  cases r with
  | none => exact lv_astore_nN hx hb hdg hi h hn hl kk
  | some y => exact lv_astore_n hx hb hdg hi h hn hl kk
theorem gq_astore (hx : p.tables.exec = Jvm.exec) (hb : c.code = cc) {i nL : Nat} {r : Option Nat} {lv lv' : List (Nat × Value)} (hdg : decode cc pc = .ok (.astore i, 2)) (h : lv_has ls nL lv) (hn : i < nL) (hl : (i, va_rf r) :: lv.filter (fun q => !(q.1 == i) && !(q.1 + 1 == i && q.2.category == 2)) = lv')
    (kk : ∀ ls' : Array Slot, lv_has ls' nL lv' → W p l e R s m args below meth c H locs cells slots Q (F0 m (pc + 2) ls' rest)) : W p l e R s m args below meth c H locs cells slots Q (F0 m pc ls (va_rf r :: rest)) := by
  cases r with
  | none => exact lv_astoreN hx hb hdg h hn hl kk
  | some y => exact lv_astore hx hb hdg h hn hl kk
/-- an array of references gets one that may be null -/
theorem gq_aast {H0 : Heap} (hx : p.tables.exec = Jvm.exec) (hb : c.code = cc) {ws : va_W} {a0 : Nat} (hK : va_K D cl tys s) (hP : va_P D cl ws H) (hD : va_D A ws) (hS : va_S A H0 H locs) (q0 t0 ci : Nat) {cA : ClassId} {r : vw_C} {n : Nat} {f : Nat → Option Nat} {v : Option Nat} (ha : ws[q0]? = some (a0, .inl (cA, n, .inr (.inr (.inr (.inr f)))))) (ht : tys[t0]? = some (cA, .object r.1)) (hv : ∀ y, v = some y → ∃ (qk : Nat) (vs : List Value), ws[qk]? = some (y, .inr (ci, vs))) (hc : cl[ci]? = some r) {i : Int32} (hin : vp_in i n) (hdg : decode cc pc = .ok (.aastore, 1))
    (kk : ∀ (H1 : Heap) (locs1 : List Loc), va_P D cl (ws.set q0 (a0, .inl (cA, n, .inr (.inr (.inr (.inr (va_up f i.toNatClampNeg v))))))) H1 → va_D A (ws.set q0 (a0, .inl (cA, n, .inr (.inr (.inr (.inr (va_up f i.toNatClampNeg v))))))) → va_S A H0 H1 locs1 → W p l e R s m args below meth c H1 locs1 cells slots Q (F0 m (pc + 1) ls rest)) : W p l e R s m args below meth c H locs cells slots Q (F0 m pc ls (va_rf v :: .int i :: .ref a0 :: rest)) := by
  cases v with
  | none => exact va_astqN hx hb hK hP hD hS q0 t0 ha ht hin hdg kk
  | some y =>
    obtain ⟨qk, vs, hq⟩ := hv y rfl
    exact va_astq hx hb hK hP hD hS q0 t0 qk ci ha ht hq hc hin hdg kk
end GC
/-! two pools behind the fixed cells -/
theorem g2_get {X P2 : va_W} {L : List Nat} {f : Nat → va_E} {a : Nat} (h : a ∈ L) : ∃ k : Nat, ((X ++ va_pl L f) ++ P2)[k]? = some (a, f a) := by
  obtain ⟨k, hk⟩ := va_pl_get (X := X) (f := f) h
  exact ⟨k, by rw [List.getElem?_append_left (List.getElem?_eq_some_iff.mp hk).1]; exact hk⟩
theorem g2_set {A : Nat → Prop} {X P2 : va_W} {L : List Nat} {f : Nat → va_E} {a k : Nat} {e : va_E} (hD : va_D A ((X ++ va_pl L f) ++ P2)) (h : a ∈ L) (hk : ((X ++ va_pl L f) ++ P2)[k]? = some (a, f a)) : ((X ++ va_pl L f) ++ P2).set k (a, e) = (X ++ va_pl L (va_up f a e)) ++ P2 := by
  obtain ⟨k1, hk1⟩ := va_pl_get (X := X) (f := f) h
  have hl := (List.getElem?_eq_some_iff.mp hk1).1
  have hk2 : ((X ++ va_pl L f) ++ P2)[k1]? = some (a, f a) := by rw [List.getElem?_append_left hl]; exact hk1
  have hkk : k = k1 := hD.1 k k1 _ _ hk hk2 rfl
  subst hkk
  have hD1 : va_D A (X ++ va_pl L f) := hD.by id (fun j q hj => by
    show ((X ++ va_pl L f) ++ P2)[j]? = some q
    rw [List.getElem?_append_left (List.getElem?_eq_some_iff.mp hj).1]; exact hj) (fun i j _ _ e => e)
  rw [List.set_append_left _ _ hl, va_pl_set hD1 h hk1]
/-! a state: numbers, doubles, arrays of each, references that may be null; one kind for both worlds -/
abbrev gS : Type := (Nat → Int32) × (Nat → UInt64) × (Nat → Nat → Int32) × (Nat → Nat → UInt64) × (Nat → Nat → Option Nat)
def sI (u : gS) (k : Nat) : Int32 := u.1 k
def sD (u : gS) (k : Nat) : UInt64 := u.2.1 k
def sA (u : gS) (k i : Nat) : Int32 := u.2.2.1 k i
def sB (u : gS) (k i : Nat) : UInt64 := u.2.2.2.1 k i
def sQ (u : gS) (k i : Nat) : Option Nat := u.2.2.2.2 k i
def tI (u : gS) (k : Nat) (v : Int32) : gS := (va_up u.1 k v, u.2)
def tD (u : gS) (k : Nat) (v : UInt64) : gS := (u.1, va_up u.2.1 k v, u.2.2)
def tA (u : gS) (k i : Nat) (v : Int32) : gS := (u.1, u.2.1, va_up u.2.2.1 k (va_up (u.2.2.1 k) i v), u.2.2.2)
def tB (u : gS) (k i : Nat) (v : UInt64) : gS := (u.1, u.2.1, u.2.2.1, va_up u.2.2.2.1 k (va_up (u.2.2.2.1 k) i v), u.2.2.2.2)
def tQ (u : gS) (k i : Nat) (v : Option Nat) : gS := (u.1, u.2.1, u.2.2.1, u.2.2.2.1, va_up u.2.2.2.2 k (va_up (u.2.2.2.2 k) i v))
theorem sI_tI (u : gS) (k : Nat) (v : Int32) (j : Nat) : sI (tI u k v) j = if j = k then v else sI u j := rfl
theorem sI_tD (u : gS) (k : Nat) (v : UInt64) (j : Nat) : sI (tD u k v) j = sI u j := rfl
theorem sI_tA (u : gS) (k i : Nat) (v : Int32) (j : Nat) : sI (tA u k i v) j = sI u j := rfl
theorem sI_tB (u : gS) (k i : Nat) (v : UInt64) (j : Nat) : sI (tB u k i v) j = sI u j := rfl
theorem sI_tQ (u : gS) (k i : Nat) (v : Option Nat) (j : Nat) : sI (tQ u k i v) j = sI u j := rfl
theorem sD_tI (u : gS) (k : Nat) (v : Int32) (j : Nat) : sD (tI u k v) j = sD u j := rfl
theorem sD_tD (u : gS) (k : Nat) (v : UInt64) (j : Nat) : sD (tD u k v) j = if j = k then v else sD u j := rfl
theorem sD_tA (u : gS) (k i : Nat) (v : Int32) (j : Nat) : sD (tA u k i v) j = sD u j := rfl
theorem sD_tB (u : gS) (k i : Nat) (v : UInt64) (j : Nat) : sD (tB u k i v) j = sD u j := rfl
theorem sD_tQ (u : gS) (k i : Nat) (v : Option Nat) (j : Nat) : sD (tQ u k i v) j = sD u j := rfl
theorem sA_tI (u : gS) (k : Nat) (v : Int32) (a b : Nat) : sA (tI u k v) a b = sA u a b := rfl
theorem sA_tD (u : gS) (k : Nat) (v : UInt64) (a b : Nat) : sA (tD u k v) a b = sA u a b := rfl
theorem sA_tA (u : gS) (k i : Nat) (v : Int32) (a b : Nat) : sA (tA u k i v) a b = if a = k then (if b = i then v else sA u k b) else sA u a b := by
  show va_up u.2.2.1 k (va_up (u.2.2.1 k) i v) a b = _
  unfold va_up sA
  by_cases h : a = k
  · rw [if_pos h, if_pos h]
  · rw [if_neg h, if_neg h]
theorem sA_tB (u : gS) (k i : Nat) (v : UInt64) (a b : Nat) : sA (tB u k i v) a b = sA u a b := rfl
theorem sA_tQ (u : gS) (k i : Nat) (v : Option Nat) (a b : Nat) : sA (tQ u k i v) a b = sA u a b := rfl
theorem sB_tI (u : gS) (k : Nat) (v : Int32) (a b : Nat) : sB (tI u k v) a b = sB u a b := rfl
theorem sB_tD (u : gS) (k : Nat) (v : UInt64) (a b : Nat) : sB (tD u k v) a b = sB u a b := rfl
theorem sB_tA (u : gS) (k i : Nat) (v : Int32) (a b : Nat) : sB (tA u k i v) a b = sB u a b := rfl
theorem sB_tB (u : gS) (k i : Nat) (v : UInt64) (a b : Nat) : sB (tB u k i v) a b = if a = k then (if b = i then v else sB u k b) else sB u a b := by
  show va_up u.2.2.2.1 k (va_up (u.2.2.2.1 k) i v) a b = _
  unfold va_up sB
  by_cases h : a = k
  · rw [if_pos h, if_pos h]
  · rw [if_neg h, if_neg h]
theorem sB_tQ (u : gS) (k i : Nat) (v : Option Nat) (a b : Nat) : sB (tQ u k i v) a b = sB u a b := rfl
theorem sQ_tI (u : gS) (k : Nat) (v : Int32) (a b : Nat) : sQ (tI u k v) a b = sQ u a b := rfl
theorem sQ_tD (u : gS) (k : Nat) (v : UInt64) (a b : Nat) : sQ (tD u k v) a b = sQ u a b := rfl
theorem sQ_tA (u : gS) (k i : Nat) (v : Int32) (a b : Nat) : sQ (tA u k i v) a b = sQ u a b := rfl
theorem sQ_tB (u : gS) (k i : Nat) (v : UInt64) (a b : Nat) : sQ (tB u k i v) a b = sQ u a b := rfl
theorem sQ_tQ (u : gS) (k i : Nat) (v : Option Nat) (a b : Nat) : sQ (tQ u k i v) a b = if a = k then (if b = i then v else sQ u k b) else sQ u a b := by
  show va_up u.2.2.2.2 k (va_up (u.2.2.2.2 k) i v) a b = _
  unfold va_up sQ
  by_cases h : a = k
  · rw [if_pos h, if_pos h]
  · rw [if_neg h, if_neg h]
end
section
/-! methods that throw (over the family of names vx_ that stands ahead of the printed names): what leaves them carries its class's name and the world -/
def gX (D : va_G) (cl : List vw_C) (tys : List (ClassId × FieldType)) {S : Type} (w : S → va_W) (px : String → S → Prop) (A : Nat → Prop) : String → State → State → Prop :=
  vx_X (S := String × S) (fun z => px z.1 z.2) (fun E z t => z.1 = E ∧ gAt D cl tys w A z.2 t) A
section GX
variable {p : Program} {l : Launch} {e : Env} {R : Room} {s : State} {m : MethodId} {args : Array Value} {below : List Frame} {meth : Method} {c : Code} {H : Heap} {locs : List Loc} {cells slots : Nat} {Q : State → Prop}
variable {cc : ByteArray} {pc : Nat} {ls : Array Slot} {rest st0 : List Value} {a : Array Value} {A : Nat → Prop} {mc ms : Nat} {D : va_G} {cl : List vw_C} {tys : List (ClassId × FieldType)} {S : Type} {w : S → va_W} {u : S}
variable {Qc : Array Value → State → Outcome → State → Prop} {px : String → S → Prop}
/-- not caught here -/
theorem gx_out {E : String} {ce : Cell} {q : Addr} (hno : ∀ x ∈ c.exceptionTable.toList, False) (hlocks : meth.locks = false) (h : px E u) (hP : va_P D cl (w u) H) (hK : va_K D cl tys s) (hD : va_D A (w u)) (hS : va_S A s.heap H locs) (hce : H[q]? = some ce) (hcv : ce.vm = .none) (hcl : s.vm.findClass E = some ce.cls) (hc : cells ≤ mc) (hs : slots ≤ ms) :
    vx_W p l e R s m args below meth c H locs cells slots (vx_MQ below Qc (gX D cl tys w px A) args s mc ms A) (F0 m pc ls rest) q :=
  vx_out (fun x hx => (hno x hx).elim) hlocks hce hcv hcl (fun t ht ha => ⟨(E, u), h, ⟨rfl, by rw [ht]; exact hP, va_K.moved ha hK, hD⟩, hS.F ht⟩) hS.2.2 hc hs
/-- calls of such methods: what they throw goes on to kx -/
theorem gxc_i {post : Int32 → S → Prop} {py : String → S → Prop} (hr : vx_Run p l e R s m args below meth c H locs cells slots mc ms (F0 m pc ls st0) rest (va_Qi post (gAt D cl tys w (va_A (w u) H.size)) (va_A (w u) H.size) a) (gX D cl tys w py (va_A (w u) H.size)) (va_A (w u) H.size)) (hD : va_D A (w u)) (hS : va_S A s.heap H locs) (hA : ∀ q, s.heap.size ≤ q → A q)
    (kx : ∀ (E : String) (ce : Cell) (q : Addr) (u1 : S) (H1 : Heap) (locs1 : List Loc), py E u1 → va_P D cl (w u1) H1 → va_D A (w u1) → va_S A s.heap H1 locs1 → H1[q]? = some ce → ce.vm = .none → s.vm.findClass E = some ce.cls → vx_W p l e R s m args below meth c H1 locs1 (cells + mc) (slots + ms) Q (F0 m pc ls rest) q)
    (kk : ∀ (r : Int32) (u1 : S) (H1 : Heap) (locs1 : List Loc), post r u1 → va_P D cl (w u1) H1 → va_D A (w u1) → va_S A s.heap H1 locs1 → W p l e R s m args below meth c H1 locs1 (cells + mc) (slots + ms) Q (F0 m (pc + 3) ls (.int r :: rest))) : W p l e R s m args below meth c H locs cells slots Q (F0 m pc ls st0) := by
  have hF := g_free hD hS hA
  refine vx_calli hr hS (fun q _ h => hF q h) hF (fun q _ h => hF q h) (fun E ce q z t H1 locs ht hvm hw hB hz1 hk1 hS hce hcv hcl => ?_) (fun r u t H1 locs ht hvm hw hB hz1 hk1 hS => ?_)
  · obtain ⟨E', u1⟩ := z
    obtain ⟨rfl, hP1, hK1, hD1⟩ := hB
    rw [ht] at hP1
    exact kx _ ce q u1 H1 locs hw hP1 (hD1.weaken (fun k q _ h => hF q.1 h)) hS hce hcv hcl
  · obtain ⟨hP1, hK1, hD1⟩ := hB
    rw [ht] at hP1
    exact kk r u H1 locs hw hP1 (hD1.weaken (fun k q _ h => hF q.1 h)) hS
theorem gxc_v {post : S → Prop} {py : String → S → Prop} (hr : vx_Run p l e R s m args below meth c H locs cells slots mc ms (F0 m pc ls st0) rest (va_Qv post (gAt D cl tys w (va_A (w u) H.size)) (va_A (w u) H.size) a) (gX D cl tys w py (va_A (w u) H.size)) (va_A (w u) H.size)) (hD : va_D A (w u)) (hS : va_S A s.heap H locs) (hA : ∀ q, s.heap.size ≤ q → A q)
    (kx : ∀ (E : String) (ce : Cell) (q : Addr) (u1 : S) (H1 : Heap) (locs1 : List Loc), py E u1 → va_P D cl (w u1) H1 → va_D A (w u1) → va_S A s.heap H1 locs1 → H1[q]? = some ce → ce.vm = .none → s.vm.findClass E = some ce.cls → vx_W p l e R s m args below meth c H1 locs1 (cells + mc) (slots + ms) Q (F0 m pc ls rest) q)
    (kk : ∀ (u1 : S) (H1 : Heap) (locs1 : List Loc), post u1 → va_P D cl (w u1) H1 → va_D A (w u1) → va_S A s.heap H1 locs1 → W p l e R s m args below meth c H1 locs1 (cells + mc) (slots + ms) Q (F0 m (pc + 3) ls rest)) : W p l e R s m args below meth c H locs cells slots Q (F0 m pc ls st0) := by
  have hF := g_free hD hS hA
  refine vx_callv hr hS (fun q _ h => hF q h) hF (fun q _ h => hF q h) (fun E ce q z t H1 locs ht hvm hw hB hz1 hk1 hS hce hcv hcl => ?_) (fun u t H1 locs ht hvm hw hB hz1 hk1 hS => ?_)
  · obtain ⟨E', u1⟩ := z
    obtain ⟨rfl, hP1, hK1, hD1⟩ := hB
    rw [ht] at hP1
    exact kx _ ce q u1 H1 locs hw hP1 (hD1.weaken (fun k q _ h => hF q.1 h)) hS hce hcv hcl
  · obtain ⟨hP1, hK1, hD1⟩ := hB
    rw [ht] at hP1
    exact kk u H1 locs hw hP1 (hD1.weaken (fun k q _ h => hF q.1 h)) hS
theorem gxc_d {post : UInt64 → S → Prop} {py : String → S → Prop} (hr : vx_Run p l e R s m args below meth c H locs cells slots mc ms (F0 m pc ls st0) rest (va_Qd post (gAt D cl tys w (va_A (w u) H.size)) (va_A (w u) H.size) a) (gX D cl tys w py (va_A (w u) H.size)) (va_A (w u) H.size)) (hD : va_D A (w u)) (hS : va_S A s.heap H locs) (hA : ∀ q, s.heap.size ≤ q → A q)
    (kx : ∀ (E : String) (ce : Cell) (q : Addr) (u1 : S) (H1 : Heap) (locs1 : List Loc), py E u1 → va_P D cl (w u1) H1 → va_D A (w u1) → va_S A s.heap H1 locs1 → H1[q]? = some ce → ce.vm = .none → s.vm.findClass E = some ce.cls → vx_W p l e R s m args below meth c H1 locs1 (cells + mc) (slots + ms) Q (F0 m pc ls rest) q)
    (kk : ∀ (r : UInt64) (u1 : S) (H1 : Heap) (locs1 : List Loc), post r u1 → va_P D cl (w u1) H1 → va_D A (w u1) → va_S A s.heap H1 locs1 → W p l e R s m args below meth c H1 locs1 (cells + mc) (slots + ms) Q (F0 m (pc + 3) ls (.double r :: rest))) : W p l e R s m args below meth c H locs cells slots Q (F0 m pc ls st0) := by
  have hF := g_free hD hS hA
  refine vx_calld hr hS (fun q _ h => hF q h) hF (fun q _ h => hF q h) (fun E ce q z t H1 locs ht hvm hw hB hz1 hk1 hS hce hcv hcl => ?_) (fun r u t H1 locs ht hvm hw hB hz1 hk1 hS => ?_)
  · obtain ⟨E', u1⟩ := z
    obtain ⟨rfl, hP1, hK1, hD1⟩ := hB
    rw [ht] at hP1
    exact kx _ ce q u1 H1 locs hw hP1 (hD1.weaken (fun k q _ h => hF q.1 h)) hS hce hcv hcl
  · obtain ⟨hP1, hK1, hD1⟩ := hB
    rw [ht] at hP1
    exact kk r u H1 locs hw hP1 (hD1.weaken (fun k q _ h => hF q.1 h)) hS
/-- an answer that may be null (where the family has no row for it: out of the run itself) -/
theorem gxc_q {post : Option Nat → S → Prop} {py : String → S → Prop} (hr : vx_Run p l e R s m args below meth c H locs cells slots mc ms (F0 m pc ls st0) rest (va_Qq post (gAt D cl tys w (va_A (w u) H.size)) (va_A (w u) H.size) a) (gX D cl tys w py (va_A (w u) H.size)) (va_A (w u) H.size)) (hD : va_D A (w u)) (hS : va_S A s.heap H locs) (hA : ∀ q, s.heap.size ≤ q → A q)
    (kx : ∀ (E : String) (ce : Cell) (q : Addr) (u1 : S) (H1 : Heap) (locs1 : List Loc), py E u1 → va_P D cl (w u1) H1 → va_D A (w u1) → va_S A s.heap H1 locs1 → H1[q]? = some ce → ce.vm = .none → s.vm.findClass E = some ce.cls → vx_W p l e R s m args below meth c H1 locs1 (cells + mc) (slots + ms) Q (F0 m pc ls rest) q)
    (kk : ∀ (r : Option Nat) (u1 : S) (H1 : Heap) (locs1 : List Loc), post r u1 → va_P D cl (w u1) H1 → va_D A (w u1) → va_S A s.heap H1 locs1 → W p l e R s m args below meth c H1 locs1 (cells + mc) (slots + ms) Q (F0 m (pc + 3) ls (va_rf r :: rest))) : W p l e R s m args below meth c H locs cells slots Q (F0 m pc ls st0) := by
  have hF := g_free hD hS hA
  intro T hT X
  rcases hr T hT X with ⟨v, st₀, t, T', L, h0, X', hL, e1, e2, ⟨⟨r, u1, hv, hp, hB⟩, hFr⟩, st⟩ | ⟨q, st₀, t, T', L, E, ce, h0, X', hL, e1, e2, ⟨⟨E', u1⟩, hp, hB, hFr⟩, hce, hcv, hcl, st⟩
  · cases hv
    obtain ⟨k1, k2, k3⟩ := vx_keep h0 e1 hS (fun q _ h => hF q h) hF hL hFr
    obtain ⟨hP1, hK1, hD1⟩ := hB
    obtain ⟨t2, a1, b1⟩ := kk r u1 T'.heap (locs ++ L) hp (by rw [e1]; exact hP1) (hD1.weaken (fun k q _ h => hF q.1 h)) k3 T' rfl X'
    exact ⟨t2, st t2 a1, b1⟩
  · obtain ⟨k1, k2, k3⟩ := vx_keep h0 e1 hS (fun q _ h => hF q h) hF hL hFr
    obtain ⟨rfl, hP1, hK1, hD1⟩ := hB
    obtain ⟨t2, a1, b1⟩ := kx _ ce q u1 T'.heap (locs ++ L) hp (by rw [e1]; exact hP1) (hD1.weaken (fun k q _ h => hF q.1 h)) k3 (by rw [e1]; exact hce) hcv hcl T' rfl X'
    exact ⟨t2, st.trans a1, b1⟩
/-- the world behind a throw: nothing of it has changed -/
theorem gx_thrown {E : String} {t : State} (h : px E u) (hP : va_P D cl (w u) H) (hK : va_K D cl tys s) (hD : va_D A (w u)) (hS : va_S A s.heap H locs) (ha : s.vm.Alike t.vm) (hz : H.size ≤ t.heap.size) (hq : ∀ q : Nat, q < H.size → t.heap[q]? = H[q]?) : gX D cl tys w px A E s t :=
  ⟨(E, u), h, ⟨rfl, hP.kept (fun k q hk => hq _ (hP k q hk).lt), va_K.moved ha hK, hD⟩, ⟨Nat.le_trans hS.1 hz, fun q h1 h2 => by rw [hq q (Nat.lt_of_lt_of_le h1 hS.1)]; exact hS.2.1 q h1 h2⟩⟩
end GX
end
section
/-! doubles: no NaN, and of bounded size (in units of the least number: one64 of them are 1) -/
def dB (n : Int) (x : UInt64) : Prop :=
  Jvm.FP.Core.val64 x ≠ .nan ∧ -(n * (Jvm.FP.Core.one64 : Int)) ≤ Jvm.FP.Core.zval Jvm.FP.Core.b64 (Jvm.FP.Core.val64 x) ∧ Jvm.FP.Core.zval Jvm.FP.Core.b64 (Jvm.FP.Core.val64 x) ≤ n * (Jvm.FP.Core.one64 : Int)
def dN (x : UInt64) : Prop := Jvm.FP.Core.val64 x ≠ .nan
theorem dN_n64 {x : UInt64} (h : dN x) : vf_n64 x := by
  unfold vf_n64
  rw [UInt64.le_iff_toNat_le, Jvm.FP.Core.mask_toNat]
  exact (Jvm.FP.Core.ne_nan x).mp h
theorem dB_mono {m n : Int} {x : UInt64} (h : dB m x) (hmn : m ≤ n) : dB n x := by
  obtain ⟨h1, h2, h3⟩ := h
  have ho : (0 : Int) ≤ (Jvm.FP.Core.one64 : Int) := Int.natCast_nonneg _
  have hm := Int.mul_le_mul_of_nonneg_right hmn ho
  exact ⟨h1, by omega, by omega⟩
theorem dB_nn {n : Int} {x : UInt64} (h : dB n x) : 0 ≤ n := by
  obtain ⟨_, h2, h3⟩ := h
  have ho := Jvm.FP.Core.one64_pos
  refine Int.le_of_not_gt fun hn => ?_
  have hm := Int.mul_le_mul_of_nonneg_right (show n ≤ -1 by omega) (show (0 : Int) ≤ (Jvm.FP.Core.one64 : Int) from Int.natCast_nonneg _)
  omega
theorem dB_fin {n : Int} {x : UInt64} (hn : n ≤ 9007199254740992) (h : dB n x) : Jvm.FP.Core.DFin x := by
  obtain ⟨h1, h2, h3⟩ := h
  cases hv : Jvm.FP.Core.val64 x with
  | nan => exact absurd hv h1
  | fin s c q => exact ⟨s, c, q, hv⟩
  | inf s =>
    exfalso
    rw [hv] at h2 h3
    have hm := Int.mul_le_mul_of_nonneg_right hn (show (0 : Int) ≤ (Jvm.FP.Core.one64 : Int) from Int.natCast_nonneg _)
    have ht : (9007199254740992 : Int) * (Jvm.FP.Core.one64 : Int) < ((Jvm.FP.Core.zmag Jvm.FP.Core.b64 (.inf s) : Nat) : Int) := by
      show (9007199254740992 : Int) * ((2 ^ 1074 : Nat) : Int) < ((Jvm.FP.Core.b64.tails * 2 ^ (Jvm.FP.Core.b64.exps - 2) : Nat) : Int)
      decide +kernel
    have hz : Jvm.FP.Core.zval Jvm.FP.Core.b64 (.inf s) = Jvm.FP.Core.signed s (Jvm.FP.Core.zmag Jvm.FP.Core.b64 (.inf s)) := rfl
    rw [hz] at h2 h3
    generalize Jvm.FP.Core.zmag Jvm.FP.Core.b64 (.inf s) = t at *
    cases s <;> simp only [Jvm.FP.Core.signed, if_true, Bool.false_eq_true, if_false] at h2 h3 <;> omega
theorem dB_V {n : Int} (h : n.natAbs ≤ 2 ^ 53) : ∃ V : Jvm.FP.Core.Datum, Jvm.FP.Core.fits Jvm.FP.Core.b64 V ∧ V ≠ .nan ∧ Jvm.FP.Core.zval Jvm.FP.Core.b64 V = n * (Jvm.FP.Core.one64 : Int) := by
  have w := Jvm.FP.Core.whole_round Jvm.FP.Core.good_b64 Jvm.FP.Core.wide_b64 (show n.natAbs ≤ 2 ^ Jvm.FP.Core.b64.p from h) (Jvm.FP.Core.whole_ofInt n)
  exact ⟨_, Jvm.FP.Core.round_fits Jvm.FP.Core.good_b64 _, w.ne_nan, by rw [← Jvm.FP.Core.pow_qmin64]; exact Jvm.FP.Core.whole_zval Jvm.FP.Core.good_b64 (Jvm.FP.Core.round_fits Jvm.FP.Core.good_b64 _) w⟩
theorem dB_add {m n : Int} {a b : UInt64} (ha : dB m a) (hb : dB n b) (h : m + n ≤ 9007199254740992) : dB (m + n) (FP.dadd a b) := by
  have hm := dB_nn ha
  have hn := dB_nn hb
  obtain ⟨s, c, q, ea⟩ := dB_fin (by omega) ha
  obtain ⟨t, d, r, eb⟩ := dB_fin (by omega) hb
  obtain ⟨_, a1, a2⟩ := ha
  obtain ⟨_, b1, b2⟩ := hb
  have fa := Jvm.FP.Core.val64_fits a
  have fb := Jvm.FP.Core.val64_fits b
  rw [ea] at a1 a2 fa
  rw [eb] at b1 b2 fb
  obtain ⟨sg, k, e, es, he, hu⟩ := Jvm.FP.Core.sum_units fa fb
  obtain ⟨V, v1, v2, v3⟩ := dB_V (n := m + n) (by omega)
  obtain ⟨V', w1, w2, w3⟩ := dB_V (n := -(m + n)) (by omega)
  have hv : Jvm.FP.Core.val64 (FP.dadd a b) = Jvm.FP.Core.round Jvm.FP.Core.b64 (.fin sg k e) := by
    show Jvm.FP.Core.val64 (Jvm.FP.Core.dadd a b) = _
    rw [Jvm.FP.Core.val64_dadd, ea, eb, es]
  have hd : (m + n) * (Jvm.FP.Core.one64 : Int) = m * (Jvm.FP.Core.one64 : Int) + n * (Jvm.FP.Core.one64 : Int) := Int.add_mul ..
  have hd' : -(m + n) * (Jvm.FP.Core.one64 : Int) = -((m + n) * (Jvm.FP.Core.one64 : Int)) := Int.neg_mul ..
  have up : Jvm.FP.Core.zval Jvm.FP.Core.b64 (Jvm.FP.Core.round Jvm.FP.Core.b64 (.fin sg k e)) ≤ Jvm.FP.Core.zval Jvm.FP.Core.b64 V := by
    refine Jvm.FP.Core.zval_round_le Jvm.FP.Core.good_b64 v1 v2 (e0 := Jvm.FP.Core.b64.qmin) (Int.le_refl _) he ?_
    rw [hu, v3, Int.sub_self]
    show _ ≤ _ * ((1 : Nat) : Int)
    rw [show ((1 : Nat) : Int) = 1 from rfl, Int.mul_one]
    omega
  have dn : Jvm.FP.Core.zval Jvm.FP.Core.b64 V' ≤ Jvm.FP.Core.zval Jvm.FP.Core.b64 (Jvm.FP.Core.round Jvm.FP.Core.b64 (.fin sg k e)) := by
    refine Jvm.FP.Core.zval_round_ge Jvm.FP.Core.good_b64 w1 w2 (e0 := Jvm.FP.Core.b64.qmin) (Int.le_refl _) he ?_
    rw [hu, w3, Int.sub_self]
    show _ * ((1 : Nat) : Int) ≤ _
    rw [show ((1 : Nat) : Int) = 1 from rfl, Int.mul_one]
    omega
  unfold dB
  rw [hv]
  exact ⟨fun h => Jvm.FP.Core.roundRatio_ne_nan _ _ _ _ _ h, by omega, by omega⟩
theorem dB_neg {n : Int} {a : UInt64} (h : dB n a) : dB n (Jvm.FP.Core.dneg a) := by
  obtain ⟨h1, h2, h3⟩ := h
  unfold dB
  rw [Jvm.FP.Core.val64_dneg, Jvm.FP.Core.zval_negate]
  exact ⟨Jvm.FP.Core.negate_ne_nan h1, by omega, by omega⟩
theorem dB_sub {m n : Int} {a b : UInt64} (ha : dB m a) (hb : dB n b) (h : m + n ≤ 9007199254740992) : dB (m + n) (FP.dsub a b) := by
  show dB (m + n) (Jvm.FP.Core.dsub a b)
  rw [Jvm.FP.Core.dsub_eq]
  exact dB_add ha (dB_neg hb) h
theorem dB_int (v : Int32) {n : Int} (h1 : -n ≤ v.toInt) (h2 : v.toInt ≤ n) : dB n (FP.i2d v) := by
  have w := Jvm.FP.Core.i2d_int v
  have ho : (0 : Int) ≤ (Jvm.FP.Core.one64 : Int) := Int.natCast_nonneg _
  refine ⟨Jvm.FP.Core.DInt_ne_nan w, ?_, ?_⟩
  · show _ ≤ Jvm.FP.Core.zval Jvm.FP.Core.b64 (Jvm.FP.Core.val64 (Jvm.FP.Core.i2d v))
    rw [Jvm.FP.Core.DInt_zval w, ← Int.neg_mul]
    exact Int.mul_le_mul_of_nonneg_right h1 ho
  · show Jvm.FP.Core.zval Jvm.FP.Core.b64 (Jvm.FP.Core.val64 (Jvm.FP.Core.i2d v)) ≤ _
    rw [Jvm.FP.Core.DInt_zval w]
    exact Int.mul_le_mul_of_nonneg_right h2 ho
theorem dB_zero {n : Int} (h : 0 ≤ n) : dB n 0 := by
  have hm := Int.mul_nonneg h (show (0 : Int) ≤ (Jvm.FP.Core.one64 : Int) from Int.natCast_nonneg _)
  refine ⟨by rw [Jvm.FP.Core.val64_zero]; exact Jvm.FP.Core.Datum.noConfusion, ?_, ?_⟩ <;> rw [Jvm.FP.Core.zval64_zero] <;> omega
theorem dB_N {n : Int} {x : UInt64} (h : dB n x) : dN x := h.1
/-- no NaN comes out -/
theorem dN_add {a b : UInt64} (ha : dN a) (hb : Jvm.FP.Core.DFin b) : dN (FP.dadd a b) :=
  (Jvm.FP.Core.notNaN_iff _).mp (Jvm.FP.Core.dadd_out ((Jvm.FP.Core.notNaN_iff a).mpr ha) hb)
theorem dN_div {a : UInt64} {v : Int32} (ha : dN a) (hv : v ≠ 0) : dN (FP.ddiv a (FP.i2d v)) :=
  (Jvm.FP.Core.notNaN_iff _).mp (Jvm.FP.Core.ddiv_out ((Jvm.FP.Core.notNaN_iff a).mpr ha) (Jvm.FP.Core.i2d_fin v) (fun hz => Jvm.FP.Core.i2d_ne_zero hv ((Jvm.FP.Core.zero_bits2 _).mp hz)))
theorem dN_mul {v : Int32} {b : UInt64} (hb : Jvm.FP.Core.DFin b) : dN (FP.dmul (FP.i2d v) b) :=
  (Jvm.FP.Core.notNaN_iff _).mp (Jvm.FP.Core.dmul_out (Jvm.FP.Core.i2d_fin v) hb)
theorem dN_mul' {v : Int32} {b : UInt64} (hb : Jvm.FP.Core.DFin b) : dN (FP.dmul b (FP.i2d v)) :=
  (Jvm.FP.Core.notNaN_iff _).mp (Jvm.FP.Core.dmul_out hb (Jvm.FP.Core.i2d_fin v))
/-- between two bounds -/
theorem dB_between {n : Int} {x lo hi : UInt64} (h1 : Jvm.FP.Core.dcmp x lo = some .gt ∨ Jvm.FP.Core.dcmp x lo = some .eq) (h2 : Jvm.FP.Core.dcmp x hi = some .lt ∨ Jvm.FP.Core.dcmp x hi = some .eq) (hl : dB n lo) (hh : dB n hi) : dB n x := by
  obtain ⟨a1, _, a2⟩ := Jvm.FP.Core.dcmp_ge.mp h1
  obtain ⟨_, _, b2⟩ := Jvm.FP.Core.dcmp_le.mp h2
  obtain ⟨_, l1, _⟩ := hl
  obtain ⟨_, _, u1⟩ := hh
  exact ⟨a1, by omega, by omega⟩
end
section
/-! small ints as natural numbers -/
def iN (k : Nat) : Int32 := Int32.ofNat k
theorem iN_toInt {k : Nat} (h : k < 2147483648) : (iN k).toInt = k := Int32.toInt_ofNat_of_lt h
theorem iN_nat {k : Nat} (h : k < 2147483648) : (iN k).toNatClampNeg = k := Int32.toNatClampNeg_ofNat_of_lt h
theorem iN_add (a b : Nat) : iN a + iN b = iN (a + b) := (Int32.ofNat_add a b).symm
theorem iN_succ (k : Nat) : iN k + 1 = iN (k + 1) := (Int32.ofNat_add k 1).symm
theorem iN_pred {k : Nat} (h : 0 < k) : iN k - 1 = iN (k - 1) := by
  obtain ⟨j, rfl⟩ : ∃ j, k = j + 1 := ⟨k - 1, by omega⟩
  rw [← iN_succ, Int32.add_sub_cancel]; rfl
theorem iN_predM {k : Nat} (h : 0 < k) : iN k + (-1) = iN (k - 1) := by
  rw [← iN_pred h, Int32.sub_eq_add_neg]
theorem iN_lt {a b : Nat} (ha : a < 2147483648) (hb : b < 2147483648) : iN a < iN b ↔ a < b := by
  rw [Int32.lt_iff_toInt_lt, iN_toInt ha, iN_toInt hb]; omega
theorem iN_le {a b : Nat} (ha : a < 2147483648) (hb : b < 2147483648) : iN a ≤ iN b ↔ a ≤ b := by
  rw [Int32.le_iff_toInt_le, iN_toInt ha, iN_toInt hb]; omega
theorem iN_inj {a b : Nat} (ha : a < 2147483648) (hb : b < 2147483648) : iN a = iN b ↔ a = b := by
  constructor
  · intro h
    have e := congrArg Int32.toInt h
    rw [iN_toInt ha, iN_toInt hb] at e
    omega
  · intro h; rw [h]
theorem iN_nneg {k : Nat} (h : k < 2147483648) : ¬ iN k < 0 := by
  rw [Int32.lt_iff_toInt_lt, iN_toInt h]
  show ¬ (k : Int) < 0
  omega
theorem iN_0le {k : Nat} (h : k < 2147483648) : 0 ≤ iN k := by
  rw [Int32.le_iff_toInt_le, iN_toInt h]
  show (0 : Int) ≤ (k : Int)
  omega
theorem iN_in {k n : Nat} (h : k < n) (hn : n ≤ 2147483648) : vp_in (iN k) n := by
  rintro (h1 | h1)
  · exact iN_nneg (by omega) h1
  · rw [iN_nat (by omega)] at h1; omega
theorem iN_of {x : Int32} (h : 0 ≤ x) : x = iN x.toNatClampNeg := (Int32.ofNat_toNatClampNeg x h).symm
theorem iN_of2 {x : Int32} {n : Nat} (h : 0 ≤ x) (h2 : x < iN n) (hn : n < 2147483648) : ∃ k, x = iN k ∧ k < n := by
  refine ⟨x.toNatClampNeg, iN_of h, ?_⟩
  rw [iN_of h] at h2
  exact (iN_lt x.toNatClampNeg_lt hn).mp h2
theorem iN_negOr (x : Int32) : x < 0 ∨ ∃ k, x = iN k ∧ k < 2147483648 := by
  by_cases h : x < 0
  · exact Or.inl h
  · exact Or.inr ⟨x.toNatClampNeg, iN_of (Int32.not_lt.mp h), x.toNatClampNeg_lt⟩
end
section
/-! an exception whose own constructor hands its text on by another place of its pool than the common ones (NoSuchElementException: 13), thrown new: for launches without stack traces -/
section VN
/-- the words of such a throw, but those on the heap -/
def vn_at (own : String) (ic : Nat) (E Y : String) (ix : Nat) (rx : ByteArray) (r : List String) : List Cond :=
  (Bundle.throwableAtoms ++ Bundle.throwableSAtoms).filter vx_no ++ (Bundle.passSAtoms E Y ix rx ++ Bundle.chainSAtoms Y r) ++
  [.methodLink own ic (Bundle.initS E), .instantiable E 6, .selects E Bundle.tFill0 Bundle.tFill0, .selects E Bundle.tFill Bundle.tFill,
   .lays E Bundle.tN "cause" "Ljava/lang/Throwable;", .lays E Bundle.tN "stackTrace" Bundle.steD, .lays E Bundle.tN "suppressedExceptions" Bundle.listD, .lays E Bundle.tN "detailMessage" "Ljava/lang/String;",
   .fieldLink Bundle.tN 198 Bundle.tN "backtrace" "Ljava/lang/Object;", .lays Bundle.tN Bundle.tN "backtrace" "Ljava/lang/Object;", .lays E Bundle.tN "backtrace" "Ljava/lang/Object;"]
variable {p : Program} {l : Launch} {e : Env} {R : Room} {s : State} {m : MethodId} {args : Array Value} {below : List Frame} {meth : Method} {c : Code} {locs : List Loc} {cells slots : Nat}
set_option maxHeartbeats 2000000 in
theorem vn_ctor {V : State} (X : Stand p l e R s m args below meth c V locs cells slots) (hx : p.tables.exec = Jvm.exec) (htr : e.platform.stackTraces = false) {own E Y : String} {r : List String} {ic ix : Nat} {rx : ByteArray}
    (x0 : decode rx 0 = .ok (.aload_n 0, 1)) (x1 : decode rx 1 = .ok (.aload_n 1, 1)) (x2 : decode rx 2 = .ok (.invokespecial ix, 3)) (x5 : decode rx 5 = .ok (.return_, 1))
    (hown : s.vm.findClass own = some m.cls) (hE : Bundle.fit E = true) (hY : Bundle.fit Y = true) (hr : ∀ n ∈ r, Bundle.fit n = true)
    (hT : ∀ w ∈ Bundle.throwableAtoms ++ Bundle.throwableSAtoms, w.before args s = true) (h : ∀ w ∈ vn_at own ic E Y ix rx r, w.before args s = true)
    (hUs : (Cond.isRef (.static Bundle.tN "UNASSIGNED_STACK" Bundle.steD)).before args s = true) (hNs : (Cond.isRef (.static Bundle.tN "SUPPRESSED_SENTINEL" Bundle.listD)).before args s = true)
    (hlocs : ∀ z ∈ locs, ∀ cell, s.heap[z.base]? = some cell → cell.vm.isStatics = false)
    {a : Addr} {cX : ClassId} {kX : Class} (hfX : s.vm.findClass E = some cX) (hkX : s.vm.classes[cX]? = some kX) (hcell : V.heap[a]? = some (freshCell cX kX)) (hnew : s.heap.size ≤ a)
    {msg : Value} (hmsg : msg.isRef = true) {g : JFrame} (hg : g.method = m) (hsize : g.locals.size = c.maxLocals) (hlocked : g.locked = none) (hentered : g.entered = []) {rest : List Value} (hstack : g.stack = msg :: .ref a :: .ref a :: rest)
    (hd6 : decode c.code g.pc = .ok (.invokespecial ic, 3)) (hd9 : decode c.code (g.pc + 3) = .ok (.athrow, 1)) (hout : ∀ z ∈ c.exceptionTable.toList, covers z (g.pc + 3) = false)
    (hRf : r.length + 4 < R.frames) (hRl : 2 * g.monitorRoom + ((Value.ref a :: rest).map fun v => v.category).sum + (13 * (r.length + 2) + 42) ≤ R.locals) (hlocks : meth.locks = false) :
    ∃ U : State, Steps p.tables e below (V.setTop g) U ∧ U.status = .running ∧ Ended U below (.threw a) ∧ s.WarmedH U.vm ∧ s.sameButNew ({ U with vm := s.vm } : State) locs cells slots ∧
      ∃ ce, U.heap[a]? = some ce ∧ ce.vm = .none ∧ s.vm.findClass E = some ce.cls := by
  have hpl : e.platform.magicAccessors = ({} : Platform).magicAccessors := by rw [X.admits.platform]
  obtain ⟨T, Z0, L, -, Q⟩ := ThrowableC.of_atoms (args := args) (by rw [X.admits.platform]) (by rw [X.admits.platform]) hpl (fun w hw => hT w (List.mem_append_left _ hw))
  obtain ⟨Z, M, LZ, LM, hnZ⟩ := Init0T.ofS_atoms (args := args) hpl L Q (fun w hw => hT w (List.mem_append_right _ hw))
  obtain ⟨P1, L1, hP1, hsup⟩ := PassC.ofS_atoms (args := args) (s := s) hpl (X := E) (Y := Y) (Bundle.fit_spec hE).1 (Bundle.fit_spec hY).2 x0 x1 x2 x5 (fun w hw => h w (by simp [vn_at, hw]))
  obtain ⟨P2, Ps, hlen, L2, hL, hP2, hk1, hk2⟩ := Bundle.chainS (args := args) hpl hnZ r Y hY hr (fun w hw => h w (by simp [vn_at, hw]))
  have e12 : P1.sup = P2.m := Option.some.inj (hsup.symm.trans hP2)
  have hf1 : s.vm.findClass E = some P1.m.cls := findClass_of_methodNamed hP1
  cases Option.some.inj (hfX.symm.trans hf1)
  obtain ⟨c1, k1, hc1, hk, hord, -, -, -⟩ := Cond.instantiable_spec (h (.instantiable E 6) (by simp [vn_at]))
  cases Option.some.inj (hc1.symm.trans hf1)
  cases Option.some.inj (hkX.symm.trans hk)
  have hs0 : selectMethod e.platform s.vm P1.m.cls T.fill0 = .method T.fill0 := by
    obtain ⟨c2, r2, m2, q1, q2, q3, q4, -⟩ := Cond.selects_spec (h (.selects E Bundle.tFill0 Bundle.tFill0) (by simp [vn_at]))
    cases Option.some.inj (q1.symm.trans hf1)
    cases Option.some.inj (q2.symm.trans (State.methodFound?_of_named Q.fill0 (by decide)))
    cases Option.some.inj (q3.symm.trans Q.fill0)
    rw [Launch.admits_selectMethod X.admits]; exact q4
  have hsF : selectMethod e.platform s.vm P1.m.cls T.fill = .method T.fill := by
    obtain ⟨c2, r2, m2, q1, q2, q3, q4, -⟩ := Cond.selects_spec (h (.selects E Bundle.tFill Bundle.tFill) (by simp [vn_at]))
    cases Option.some.inj (q1.symm.trans hf1)
    cases Option.some.inj (q2.symm.trans (State.methodFound?_of_named Q.fill (by decide)))
    cases Option.some.inj (q3.symm.trans Q.fill)
    rw [Launch.admits_selectMethod X.admits]; exact q4
  obtain ⟨cS, hcS, hiS⟩ := Q.statics
  obtain ⟨u0, hu0⟩ := Cond.staticRefV Q.unassigned L.unassignedStatic L.statics hcS hiS hUs
  obtain ⟨sn, hsn⟩ := Cond.staticRefV Q.sentinel L.sentinelStatic L.statics hcS hiS hNs
  obtain ⟨ci, ii, fB, b1, b2, b3, b4, -, b5, b6, b7⟩ := Cond.ownField (t := .object "java/lang/Object") Q.found L.cls (by decide +kernel) (h (.fieldLink Bundle.tN 198 Bundle.tN "backtrace" "Ljava/lang/Object;") (by simp [vn_at])) (h (.lays Bundle.tN Bundle.tN "backtrace" "Ljava/lang/Object;") (by simp [vn_at])) e.platform hpl
  obtain ⟨cS', hcS', heS, -, hkeep⟩ := X.same.2.2.2.2.2 T.aS cS hcS
  have hcS'' : V.heap[T.aS]? = some cS' := hcS'
  have hoS : ∀ i, (⟨T.aS, i⟩ : Loc) ∉ locs := fun i hm => by
    have q := hlocs _ hm cS hcS
    rw [hiS] at q; cases q
  have hkS : cS'.vm ≠ .unknown := by
    rw [heS]; intro hu
    rw [show cS.vm = .unknown from hu] at hiS
    cases hiS
  have hneS : T.aS ≠ a := Nat.ne_of_lt (Nat.lt_of_lt_of_le (Array.getElem?_eq_some_iff.mp hcS).1 hnew)
  obtain ⟨iM, hfM⟩ := Q.msg
  obtain ⟨tC, dC, dC1, dC2⟩ := Cond.laysAt hf1 hk Q.cause (h (.lays E Bundle.tN "cause" "Ljava/lang/Throwable;") (by simp [vn_at]))
  obtain ⟨tS, dS, dS1, dS2⟩ := Cond.laysAt hf1 hk Q.stack (h (.lays E Bundle.tN "stackTrace" Bundle.steD) (by simp [vn_at]))
  obtain ⟨tP, dP, dP1, dP2⟩ := Cond.laysAt hf1 hk Q.supp (h (.lays E Bundle.tN "suppressedExceptions" Bundle.listD) (by simp [vn_at]))
  obtain ⟨tM, dM, dM1, dM2⟩ := Cond.laysAt hf1 hk hfM (h (.lays E Bundle.tN "detailMessage" "Ljava/lang/String;") (by simp [vn_at]))
  obtain ⟨tB, dB, dB1, dB2⟩ := Cond.laysAt hf1 hk b7 (h (.lays E Bundle.tN "backtrace" "Ljava/lang/Object;") (by simp [vn_at]))
  have nC := Cond.laysApart dB1 dC1 dB2 dC2 (by rw [b5, Q.causeName]; decide)
  have nS := Cond.laysApart dB1 dS1 dB2 dS2 (by rw [b5, Q.stackName]; decide)
  have nP := Cond.laysApart dB1 dP1 dB2 dP2 (by rw [b5, Q.suppName]; decide)
  have hskip : SkipFacts T e.platform s (fun u => u) u0 ((preparedCellV T.toThrowableT (freshCell P1.m.cls kX) a u0 sn).withEntry V.cur) :=
    ⟨{ ci198 := ci, i198 := ii, fBack := fB }, ⟨b1, b2, b3, b4⟩, by
      have q := fresh_default (c := P1.m.cls) tB
      rw [b6] at q
      simpa [preparedCellV, Cell.setSlot, Cell.withEntry, Array.getElem?_setIfInBounds, nC, nS, nP, nC.symm, nS.symm, nP.symm, defaultValue] using q, fun _ _ => rfl⟩
  obtain ⟨tm, mC, cC, kC, vm₁, hnC, -, -, -, -, -, -, -, hW₁, st1⟩ := Steps.initColdS (tb := p.tables) (e := e) (below := below) (s := s) (U := V) X.here hx X.warmed hpl hown (t := Bundle.initS E) rfl rfl (Bundle.fit_spec hE).2
    (h (.methodLink own ic (Bundle.initS E)) (by simp [vn_at])) (h (.instanceMethod (Bundle.initS E)) (by simp [vn_at, Bundle.passSAtoms])) (bytes := rx) (maxL := 2) (h (.code (Bundle.initS E) rx 2 none) (by simp [vn_at, Bundle.passSAtoms]))
    (f := g) hg (a := a) (msg := msg) (rest := .ref a :: rest) hstack hd6
  cases Option.some.inj (hnC.symm.trans hP1)
  have X₁ := X.noted hW₁
  obtain ⟨vm₂, X₂, st2⟩ := X₁.ctorMessageOffV hx (g := { g with stack := .ref a :: rest }) hg hsize T L Z LZ M LM (P1 :: P2 :: Ps)
    (fun P hP => by
      rcases List.mem_cons.mp hP with e9 | hP
      · rw [e9]; exact L1
      · rcases List.mem_cons.mp hP with e9 | hP
        · rw [e9]; exact L2
        · exact hL P hP) ⟨e12, hk1, hk2⟩ (u0 := u0) (sen := sn) (self := a) hmsg (cell := freshCell P1.m.cls kX) (cellS := cS')
    hcell (fun _ => by simp) (by simp) rfl rfl hs0 hsF hcS'' hneS hkS (by rw [hkeep _ (hoS _)]; exact hu0) (by rw [hkeep _ (hoS _)]; exact hsn)
    (Takes.of_laid hk hord tC (by rw [Q.causeType]; rfl)) (Takes.of_laid hk hord tS (by rw [Q.stackType]; exact fits_refV_array _ u0)) (Takes.of_laid hk hord tP (by rw [Q.suppType]; exact fits_refV_object _ sn))
    (Takes.of_laid hk hord tM (by rw [Q.msgType]; exact fits_refV_object _ ⟨msg, hmsg⟩)) Q.objLocals hskip htr [] hd6
    (by simp only [List.length_cons, hlen]; omega) (by simp only [List.length_cons, hlen]; omega)
  obtain ⟨hwalk, hrun, hended, hWU, hsame⟩ := X₂.athrowLeaves hx (g := { g with stack := .ref a :: rest, pc := g.pc + 3 }) hg hlocked hentered hout (a := a) (rest := rest) rfl hd9
  have hlt : a < ((V.setVm vm₁).setVm vm₂).heap.size := (Array.getElem?_eq_some_iff.mp hcell).1
  have hU := heapAt_setCell_self (s := (V.setVm vm₁).setVm vm₂) (plainBareV T.toThrowableT (freshCell P1.m.cls kX) a u0 sn msg) hlt
  refine ⟨_, st1 _ (fun acts => ?_), hrun, hended, hWU, hsame.weaken (fun y hy hy2 => ?_) (Nat.le_refl _) (Nat.le_refl _), _, hU, rfl, hf1⟩
  · rw [doInvoke_state]
    exact st2 _ hwalk
  · rcases List.mem_append.mp hy with h1 | h1
    · exact h1
    · exfalso
      have hb : y.base = a := by
        simp only [List.mem_cons, List.not_mem_nil, or_false] at h1
        rcases h1 with rfl | rfl | rfl | rfl | rfl <;> rfl
      rw [hb] at hy2
      exact Nat.not_lt.mpr hnew hy2
end VN
section VN2
variable {p : Program} {l : Launch} {e : Env} {R : Room} {s : State} {m : MethodId} {args : Array Value} {below : List Frame} {meth : Method} {c : Code} {H : Heap} {locs : List Loc} {cells slots : Nat}
variable {mc ms : Nat} {free : Addr → Prop} {ls : Array Slot} {rest : List Value} {Qc : Array Value → State → Outcome → State → Prop} {XC : String → State → State → Prop}
set_option maxHeartbeats 2000000 in
/-- 'throw new E("text")' of such an exception: new; dup; ldc; invokespecial; athrow -/
theorem vn_throwS {cc : ByteArray} {pc : Nat} (hexec : p.tables.exec = Jvm.exec) (hb : c.code = cc) (hl : l.stackTraces = false) {own E Y text : String} {r : List String} {ik is ic ix mc ms sa : Nat} {rx : ByteArray} {A : Nat → Prop}
    (x0 : decode rx 0 = .ok (.aload_n 0, 1)) (x1 : decode rx 1 = .ok (.aload_n 1, 1)) (x2 : decode rx 2 = .ok (.invokespecial ix, 3)) (x5 : decode rx 5 = .ok (.return_, 1))
    (hown : s.vm.findClass own = some m.cls) (hE : Bundle.fit E = true) (hY : Bundle.fit Y = true) (hr : ∀ n ∈ r, Bundle.fit n = true)
    (hk : (Cond.classLink own ik E).before args s = true) (hini : (Cond.initialized E).before args s = true) (hstr : vk_R own is text sa s) (hat : ∀ w ∈ vn_at own ic E Y ix rx r, w.before args s = true)
    (hgood : ∀ w ∈ Cond.classLink own ik E :: Cond.initialized E :: vn_at own ic E Y ix rx r, vx_ot w = true)
    (hU : vx_Zq Bundle.tN "UNASSIGNED_STACK" Bundle.steD A s s.heap) (hN : vx_Zq Bundle.tN "SUPPRESSED_SENTINEL" Bundle.listD A s s.heap) (hS : va_S A s.heap H locs) (hsize : ls.size = c.maxLocals)
    (d0 : decode cc pc = .ok (.new ik, 3)) (d3 : decode cc (pc + 3) = .ok (.dup, 1)) (d4 : decode cc (pc + 4) = .ok (.ldc is, 2)) (d6 : decode cc (pc + 6) = .ok (.invokespecial ic, 3)) (d9 : decode cc (pc + 9) = .ok (.athrow, 1))
    (hout : ∀ x ∈ c.exceptionTable.toList, covers x (pc + 9) = false)
    (hRframes : r.length + 4 < R.frames) (hRlocals : (rest.map fun v => v.category).sum + (13 * (r.length + 2) + 43) ≤ R.locals) (hRcells : cells + 1 ≤ R.cells) (hRslots : slots + 6 ≤ R.slots) (hlocks : meth.locks = false)
    (hx : ∀ t : State, s.vm.Alike t.vm → H.size ≤ t.heap.size → (∀ q : Nat, q < H.size → t.heap[q]? = H[q]?) → XC E s t)
    (hf : ∀ z ∈ locs, free z.base) (hc : cells + 1 ≤ mc) (hs : slots + 6 ≤ ms) :
    W p l e R s m args below meth c H locs cells slots (vx_MQ below Qc XC args s mc ms free) (F0 m pc ls rest) := by
  intro T hT X
  have htr : e.platform.stackTraces = false := (show e.platform.stackTraces = l.stackTraces by rw [X.admits.platform]).trans hl
  have Yb := vx_rebase X (R' := { frames := R.frames, locals := R.locals, cells := 1, slots := 6 }) (Nat.le_refl _) (Nat.le_refl _) hRcells hRslots
  obtain ⟨s', hA⟩ : ∃ z, z = (T.setVm s.vm).setFrames (.invoking m args :: below) := ⟨_, rfl⟩
  rw [← hA] at Yb
  have hvm : s'.vm = s.vm := by rw [hA]; rfl
  have hhp : s'.heap = H := by rw [hA]; exact hT
  have hW0 : s.WarmedH s'.vm := by rw [hvm]; exact State.WarmedH.refl s
  have hat' : ∀ w ∈ vn_at own ic E Y ix rx r, w.before args s' = true := fun w hw => vx_ot_at hW0 hvm.symm (hgood w (List.mem_cons_of_mem _ (List.mem_cons_of_mem _ hw))) (hat w hw)
  have hk' : (Cond.classLink own ik E).before args s' = true := vx_ot_at hW0 hvm.symm (hgood _ List.mem_cons_self) hk
  have hini' : (Cond.initialized E).before args s' = true := vx_ot_at hW0 hvm.symm (hgood _ (List.mem_cons_of_mem _ List.mem_cons_self)) hini
  have hU' : vx_Zq Bundle.tN "UNASSIGNED_STACK" Bundle.steD A s' s'.heap := by rw [hhp]; exact vx_Zq.moved hW0.alike (hU.kept hS.2.1)
  have hN' : vx_Zq Bundle.tN "SUPPRESSED_SENTINEL" Bundle.listD A s' s'.heap := by rw [hhp]; exact vx_Zq.moved hW0.alike (hN.kept hS.2.1)
  have hTw : ∀ w ∈ Bundle.throwableAtoms ++ Bundle.throwableSAtoms, w.before args s' = true := vx_own (fun w hw => hat' w (by unfold vn_at; exact List.mem_append_left _ (List.mem_append_left _ hw))) (vx_isRefq hU'.1) (vx_isRefq hN'.1) hU'.2.word hN'.2.word
  have hown' : s'.vm.findClass own = some m.cls := by rw [hvm]; exact hown
  have hins : (Cond.instantiable E 6).before args s' = true := hat' _ (by simp [vn_at])
  obtain ⟨vm₁, cX, kX, hfX, hkX, -, -, X₁, st1⟩ := Yb.newCold hexec (own := own) (C := E) (index := ik) (n := 6) hown' hk' hins hini'
    (g := F0 m pc ls rest) rfl (by rw [hb]; exact d0) (Nat.le_refl _) (Nat.le_refl _)
  generalize hT1 : (T.setVm vm₁).pushCell { cls := cX, slots := kX.instanceTypes.map defaultValue, vm := .none } = T1 at X₁ st1
  have hcat : (Value.ref T.heap.size).category = 1 := rfl
  have hcellA : T1.heap[T.heap.size]? = some (freshCell cX kX) := by rw [← hT1]; exact State.heap_pushCell_size _ _
  have d3' : decode c.code (pc + 3) = .ok (.dup, 1) := by rw [hb]; exact d3
  have d4' : decode c.code (pc + 4) = .ok (.ldc is, 2) := by rw [hb]; exact d4
  have hstr' : vk_R own is text sa s' := vk_R.warm hW0 hstr
  obtain ⟨U, hsteps, hrun, hend, hW, hsame, ce, hce, hcv, hO⟩ := vn_ctor X₁ hexec htr (own := own) (E := E) (Y := Y) (r := r) (ic := ic) x0 x1 x2 x5 hown' hE hY hr hTw hat' (vx_isRefq hU'.1) (vx_isRefq hN'.1) (fun x hx => nomatch hx) hfX hkX hcellA (by rw [hhp, hT]; exact Nat.le_refl _) (msg := .ref sa) rfl
    (g := { method := m, pc := pc + 6, locals := ls, stack := .ref sa :: .ref T.heap.size :: .ref T.heap.size :: rest, locked := none }) rfl hsize rfl rfl (rest := rest) rfl
    (by rw [hb]; exact d6) (by rw [hb]; exact d9) hout hRframes (by simp only [List.map_cons, List.sum_cons, hcat]; omega) hlocks
  obtain ⟨f1, f2⟩ := vx_frame hsame
  rw [hhp] at f1 f2
  have hWs : s.WarmedH U.vm := State.WarmedH.trans hW0 hW
  have hcl : s.vm.findClass E = some ce.cls := by
    have h9 := hO
    rw [hvm] at h9
    exact h9
  have hall : s.sameButNew ({ U with vm := s.vm } : State) locs mc ms := by
    subst hA
    obtain ⟨e1, e2⟩ := hsame
    rw [State.setFrames_setFrames] at e1
    have h2 : (T.setVm s.vm).sameButNew ({ U with vm := s.vm } : State) [] (0 + 1) (0 + 6) := ⟨e1, e2⟩
    have h3 := X.same.trans h2
    rw [List.append_nil] at h3
    exact h3.mono hc hs
  refine ⟨U, ?_, .threw T.heap.size, hrun, hend, Or.inr ⟨T.heap.size, rfl, E, ce, locs, hx U hWs.alike f1 (fun q hq => f2 q hq (fun z hz => nomatch hz)), hce, hcv, hcl, hWs, hall, hf⟩⟩
  refine st1 _ ?_
  show Steps p.tables e below (T1.setTop { method := m, pc := pc + 3, locals := ls, stack := .ref T.heap.size :: rest, locked := none }) _
  jvm_step X₁.here [X₁.here.top, hexec, d3', Value.category]
  exact X₁.ldcString hexec (own := own) (text := text) (index := is) (a := sa) hown' hstr'.1 hstr'.2
    (g := { method := m, pc := pc + 4, locals := ls, stack := .ref T.heap.size :: .ref T.heap.size :: rest, locked := none }) rfl d4' _ hsteps
end VN2
end
section
def gW : List Cond := lw_tbl.filter goodWord
theorem gw_mem {w : Cond} (i : Nat) (h : lw_tbl[i]? = some w) (hg : goodWord w = true) : w ∈ gW := List.mem_filter.mpr ⟨List.mem_of_getElem? h, hg⟩
/-- a method's words: its own code, and all good ones of the tables -/
abbrev gw (y : MethodName) (b : ByteArray) (n : Nat) (r : Option FieldType) : List Cond := Cond.code y b n r :: gW
theorem gw_good {w : Cond} (h : w ∈ gW) : w ∈ gW ∧ ((w.onTables && w.keeps) = true ∨ ∃ ty, w = .arrayClass ty) := ⟨h, good_of_word (List.mem_filter.mp h).2⟩
theorem gG {y : MethodName} {b : ByteArray} {n : Nat} {r : Option FieldType} (h5 : Cond.code y b n r ∈ gW) : GoodIn gW (gw y b n r) := by
  intro w hw
  rcases List.mem_cons.mp hw with e | h
  · rw [e]; exact gw_good h5
  · exact gw_good h
theorem gG_V {own C : String} {ix : Nat} {y : MethodName} {b : ByteArray} {n : Nat} {r : Option FieldType} (h1 : Cond.methodLink own ix y ∈ gW) (h2 : Cond.instanceMethod y ∈ gW) (h3 : Cond.selects C y y ∈ gW) (h4 : Cond.initialized C ∈ gW) (h5 : Cond.code y b n r ∈ gW) : GoodIn gW (wsV own ix C y (gw y b n r)) := by
  intro w hw
  simp only [wsV, List.mem_append, List.mem_cons, List.not_mem_nil, or_false] at hw
  rcases hw with (e | e | e | e) | e | h
  · rw [e]; exact gw_good h1
  · rw [e]; exact gw_good h2
  · rw [e]; exact gw_good h3
  · rw [e]; exact gw_good h4
  · rw [e]; exact gw_good h5
  · exact gw_good h
theorem gG_S {own : String} {ix : Nat} {y : MethodName} {b : ByteArray} {n : Nat} {r : Option FieldType} (h1 : Cond.methodLink own ix y ∈ gW) (h2 : Cond.static y ∈ gW) (h4 : Cond.initialized y.cls ∈ gW) (h5 : Cond.code y b n r ∈ gW) : GoodIn gW (va_wsS own ix y (gw y b n r)) := by
  intro w hw
  simp only [va_wsS, List.mem_append, List.mem_cons, List.not_mem_nil, or_false] at hw
  rcases hw with (e | e | e) | e | h
  · rw [e]; exact gw_good h1
  · rw [e]; exact gw_good h2
  · rw [e]; exact gw_good h4
  · rw [e]; exact gw_good h5
  · exact gw_good h
theorem wd_1 : Cond.selects "WorkHall" ⟨"WorkHall", "known", "(I)LWorkHall$Job;"⟩ ⟨"WorkHall", "known", "(I)LWorkHall$Job;"⟩ ∈ gW := gw_mem 1 (by decide +kernel) rfl
theorem wd_2 : Cond.selects "WorkHall" ⟨"WorkHall", "find", "(I)LWorkHall$Job;"⟩ ⟨"WorkHall", "find", "(I)LWorkHall$Job;"⟩ ∈ gW := gw_mem 2 (by decide +kernel) rfl
theorem wd_11 : Cond.selects "WorkHall" ⟨"WorkHall", "freeWorker", "(LWorkHall$Worker;)V"⟩ ⟨"WorkHall", "freeWorker", "(LWorkHall$Worker;)V"⟩ ∈ gW := gw_mem 11 (by decide +kernel) rfl
theorem wd_12 : Cond.selects "WorkHall" ⟨"WorkHall", "endIfSettled", "()V"⟩ ⟨"WorkHall", "endIfSettled", "()V"⟩ ∈ gW := gw_mem 12 (by decide +kernel) rfl
theorem wd_15 : Cond.selects "WorkHall" ⟨"WorkHall", "placeOf", "(LWorkHall$Job;)I"⟩ ⟨"WorkHall", "placeOf", "(LWorkHall$Job;)I"⟩ ∈ gW := gw_mem 15 (by decide +kernel) rfl
theorem wd_17 : Cond.selects "WorkHallModel" ⟨"WorkHallModel", "out", "(II)Z"⟩ ⟨"WorkHallModel", "out", "(II)Z"⟩ ∈ gW := gw_mem 17 (by decide +kernel) rfl
theorem wd_18 : Cond.selects "WorkHallModel" ⟨"WorkHallModel", "fail", "(I)I"⟩ ⟨"WorkHallModel", "fail", "(I)I"⟩ ∈ gW := gw_mem 18 (by decide +kernel) rfl
theorem wd_19 : Cond.selects "WorkHallModel" ⟨"WorkHallModel", "end", "(I)I"⟩ ⟨"WorkHallModel", "end", "(I)I"⟩ ∈ gW := gw_mem 19 (by decide +kernel) rfl
theorem wd_20 : Cond.selects "WorkHallModel" ⟨"WorkHallModel", "countBusy", "()I"⟩ ⟨"WorkHallModel", "countBusy", "()I"⟩ ∈ gW := gw_mem 20 (by decide +kernel) rfl
theorem wd_21 : Cond.selects "WorkHallModel" ⟨"WorkHallModel", "submitNow", "(I)V"⟩ ⟨"WorkHallModel", "submitNow", "(I)V"⟩ ∈ gW := gw_mem 21 (by decide +kernel) rfl
theorem wd_22 : Cond.selects "WorkHallModel" ⟨"WorkHallModel", "place", "(I)Z"⟩ ⟨"WorkHallModel", "place", "(I)Z"⟩ ∈ gW := gw_mem 22 (by decide +kernel) rfl
theorem wd_23 : Cond.selects "WorkHallModel" ⟨"WorkHallModel", "newWorker", "(I)V"⟩ ⟨"WorkHallModel", "newWorker", "(I)V"⟩ ∈ gW := gw_mem 23 (by decide +kernel) rfl
theorem wd_24 : Cond.selects "WorkHallModel" ⟨"WorkHallModel", "work", "(II)V"⟩ ⟨"WorkHallModel", "work", "(II)V"⟩ ∈ gW := gw_mem 24 (by decide +kernel) rfl
theorem wd_25 : Cond.selects "WorkHallModel" ⟨"WorkHallModel", "enqueue", "(I)V"⟩ ⟨"WorkHallModel", "enqueue", "(I)V"⟩ ∈ gW := gw_mem 25 (by decide +kernel) rfl
theorem wd_26 : Cond.selects "WorkHallModel" ⟨"WorkHallModel", "dequeue", "(I)I"⟩ ⟨"WorkHallModel", "dequeue", "(I)I"⟩ ∈ gW := gw_mem 26 (by decide +kernel) rfl
theorem wd_27 : Cond.selects "WorkHallModel" ⟨"WorkHallModel", "perform", "(I)V"⟩ ⟨"WorkHallModel", "perform", "(I)V"⟩ ∈ gW := gw_mem 27 (by decide +kernel) rfl
theorem wd_28 : Cond.selects "WorkHallModel" ⟨"WorkHallModel", "push", "(I)V"⟩ ⟨"WorkHallModel", "push", "(I)V"⟩ ∈ gW := gw_mem 28 (by decide +kernel) rfl
theorem wd_29 : Cond.selects "WorkHallModel" ⟨"WorkHallModel", "performOne", "(I)V"⟩ ⟨"WorkHallModel", "performOne", "(I)V"⟩ ∈ gW := gw_mem 29 (by decide +kernel) rfl
theorem wd_30 : Cond.selects "WorkHallModel" ⟨"WorkHallModel", "done", "(II)V"⟩ ⟨"WorkHallModel", "done", "(II)V"⟩ ∈ gW := gw_mem 30 (by decide +kernel) rfl
theorem wd_31 : Cond.selects "WorkHallModel" ⟨"WorkHallModel", "broke", "(II)V"⟩ ⟨"WorkHallModel", "broke", "(II)V"⟩ ∈ gW := gw_mem 31 (by decide +kernel) rfl
theorem wd_32 : Cond.selects "WorkHallModel" ⟨"WorkHallModel", "isDone", "(I)Z"⟩ ⟨"WorkHallModel", "isDone", "(I)Z"⟩ ∈ gW := gw_mem 32 (by decide +kernel) rfl
theorem wd_33 : Cond.selects "WorkHallModel" ⟨"WorkHallModel", "fork", "(II)V"⟩ ⟨"WorkHallModel", "fork", "(II)V"⟩ ∈ gW := gw_mem 33 (by decide +kernel) rfl
theorem wd_34 : Cond.selects "WorkHallModel" ⟨"WorkHallModel", "turn", "(I)V"⟩ ⟨"WorkHallModel", "turn", "(I)V"⟩ ∈ gW := gw_mem 34 (by decide +kernel) rfl
theorem wd_35 : Cond.selects "WorkHallModel" ⟨"WorkHallModel", "place0", "(I)I"⟩ ⟨"WorkHallModel", "place0", "(I)I"⟩ ∈ gW := gw_mem 35 (by decide +kernel) rfl
theorem wd_36 : Cond.selects "WorkHallModel" ⟨"WorkHallModel", "removeWorker", "(I)V"⟩ ⟨"WorkHallModel", "removeWorker", "(I)V"⟩ ∈ gW := gw_mem 36 (by decide +kernel) rfl
theorem wd_37 : Cond.selects "WorkHallModel" ⟨"WorkHallModel", "fetch", "()I"⟩ ⟨"WorkHallModel", "fetch", "()I"⟩ ∈ gW := gw_mem 37 (by decide +kernel) rfl
theorem wd_38 : Cond.selects "WorkHallModel" ⟨"WorkHallModel", "takeNext", "(I)V"⟩ ⟨"WorkHallModel", "takeNext", "(I)V"⟩ ∈ gW := gw_mem 38 (by decide +kernel) rfl
theorem wd_39 : Cond.selects "WorkHallModel" ⟨"WorkHallModel", "rest", "(I)V"⟩ ⟨"WorkHallModel", "rest", "(I)V"⟩ ∈ gW := gw_mem 39 (by decide +kernel) rfl
theorem wd_40 : Cond.selects "WorkHallModel" ⟨"WorkHallModel", "placeInQueue", "(I)I"⟩ ⟨"WorkHallModel", "placeInQueue", "(I)I"⟩ ∈ gW := gw_mem 40 (by decide +kernel) rfl
theorem wd_41 : Cond.selects "WorkHallModel" ⟨"WorkHallModel", "workerOf", "(I)I"⟩ ⟨"WorkHallModel", "workerOf", "(I)I"⟩ ∈ gW := gw_mem 41 (by decide +kernel) rfl
theorem wd_42 : Cond.selects "WorkHallModel" ⟨"WorkHallModel", "put", "(IDD)V"⟩ ⟨"WorkHallModel", "put", "(IDD)V"⟩ ∈ gW := gw_mem 42 (by decide +kernel) rfl
theorem wd_43 : Cond.selects "WorkHallModel" ⟨"WorkHallModel", "first", "()I"⟩ ⟨"WorkHallModel", "first", "()I"⟩ ∈ gW := gw_mem 43 (by decide +kernel) rfl
theorem wd_44 : Cond.selects "WorkHallModel" ⟨"WorkHallModel", "fire", "(I)V"⟩ ⟨"WorkHallModel", "fire", "(I)V"⟩ ∈ gW := gw_mem 44 (by decide +kernel) rfl
theorem wd_46 : Cond.initialized "WorkHall" ∈ gW := gw_mem 46 (by decide +kernel) rfl
theorem wd_47 : Cond.initialized "WorkHall$Crew" ∈ gW := gw_mem 47 (by decide +kernel) rfl
theorem wd_48 : Cond.initialized "WorkHall$Worker" ∈ gW := gw_mem 48 (by decide +kernel) rfl
theorem wd_49 : Cond.initialized "WorkHall$Line" ∈ gW := gw_mem 49 (by decide +kernel) rfl
theorem wd_50 : Cond.initialized "WorkHall$Timetable" ∈ gW := gw_mem 50 (by decide +kernel) rfl
theorem wd_51 : Cond.initialized "java/lang/Math" ∈ gW := gw_mem 51 (by decide +kernel) rfl
theorem wd_52 : Cond.initialized "WorkHallModel" ∈ gW := gw_mem 52 (by decide +kernel) rfl
theorem wd_56 : Cond.initialized "java/lang/IllegalArgumentException" ∈ gW := gw_mem 56 (by decide +kernel) rfl
theorem wd_57 : Cond.initialized "java/lang/IllegalStateException" ∈ gW := gw_mem 57 (by decide +kernel) rfl
theorem wd_58 : Cond.initialized "WorkHall$Job" ∈ gW := gw_mem 58 (by decide +kernel) rfl
theorem wd_59 : Cond.initialized "java/util/NoSuchElementException" ∈ gW := gw_mem 59 (by decide +kernel) rfl
theorem wd_60 : Cond.initialized "java/lang/UnsupportedOperationException" ∈ gW := gw_mem 60 (by decide +kernel) rfl
theorem wd_61 : Cond.initialized "java/lang/ArithmeticException" ∈ gW := gw_mem 61 (by decide +kernel) rfl
theorem wd_62 : Cond.initialized "java/lang/IndexOutOfBoundsException" ∈ gW := gw_mem 62 (by decide +kernel) rfl
theorem wd_86 : Cond.fieldLink "WorkHall$Worker" 9 "WorkHall$Worker" "job" "LWorkHall$Job;" ∈ gW := gw_mem 86 (by decide +kernel) rfl
theorem wd_87 : Cond.fieldLink "WorkHall$Crew" 33 "WorkHall$Worker" "job" "LWorkHall$Job;" ∈ gW := gw_mem 87 (by decide +kernel) rfl
theorem wd_88 : Cond.fieldLink "WorkHall" 295 "WorkHall$Worker" "job" "LWorkHall$Job;" ∈ gW := gw_mem 88 (by decide +kernel) rfl
theorem wd_89 : Cond.fieldLink "WorkHall$Worker" 15 "WorkHall$Worker" "left" "I" ∈ gW := gw_mem 89 (by decide +kernel) rfl
theorem wd_90 : Cond.fieldLink "WorkHall" 209 "WorkHall$Worker" "left" "I" ∈ gW := gw_mem 90 (by decide +kernel) rfl
theorem wd_91 : Cond.fieldLink "WorkHall$Worker" 19 "WorkHall$Worker" "idleSince" "D" ∈ gW := gw_mem 91 (by decide +kernel) rfl
theorem wd_92 : Cond.fieldLink "WorkHall" 318 "WorkHall$Worker" "idleSince" "D" ∈ gW := gw_mem 92 (by decide +kernel) rfl
theorem wd_100 : Cond.fieldLink "WorkHall$Crew" 11 "WorkHall$Crew" "workers" "[LWorkHall$Worker;" ∈ gW := gw_mem 100 (by decide +kernel) rfl
theorem wd_101 : Cond.fieldLink "WorkHall$Crew" 17 "WorkHall$Crew" "size" "I" ∈ gW := gw_mem 101 (by decide +kernel) rfl
theorem wd_102 : Cond.fieldLink "WorkHall" 214 "WorkHall$Crew" "size" "I" ∈ gW := gw_mem 102 (by decide +kernel) rfl
theorem wd_103 : Cond.fieldLink "WorkHall$Crew" 21 "WorkHall$Crew" "mostSeen" "I" ∈ gW := gw_mem 103 (by decide +kernel) rfl
theorem wd_104 : Cond.fieldLink "WorkHall" 219 "WorkHall$Crew" "mostSeen" "I" ∈ gW := gw_mem 104 (by decide +kernel) rfl
theorem wd_119 : Cond.fieldLink "WorkHall$Line" 11 "WorkHall$Line" "jobs" "[LWorkHall$Job;" ∈ gW := gw_mem 119 (by decide +kernel) rfl
theorem wd_120 : Cond.fieldLink "WorkHall$Line" 17 "WorkHall$Line" "came" "[D" ∈ gW := gw_mem 120 (by decide +kernel) rfl
theorem wd_121 : Cond.fieldLink "WorkHall$Line" 21 "WorkHall$Line" "size" "I" ∈ gW := gw_mem 121 (by decide +kernel) rfl
theorem wd_122 : Cond.fieldLink "WorkHall" 218 "WorkHall$Line" "size" "I" ∈ gW := gw_mem 122 (by decide +kernel) rfl
theorem wd_123 : Cond.fieldLink "WorkHall$Line" 25 "WorkHall$Line" "taken" "I" ∈ gW := gw_mem 123 (by decide +kernel) rfl
theorem wd_124 : Cond.fieldLink "WorkHall" 222 "WorkHall$Line" "taken" "I" ∈ gW := gw_mem 124 (by decide +kernel) rfl
theorem wd_125 : Cond.fieldLink "WorkHall$Line" 28 "WorkHall$Line" "waited" "D" ∈ gW := gw_mem 125 (by decide +kernel) rfl
theorem wd_126 : Cond.fieldLink "WorkHall" 227 "WorkHall$Line" "waited" "D" ∈ gW := gw_mem 126 (by decide +kernel) rfl
theorem wd_146 : Cond.fieldLink "WorkHall$Timetable" 11 "WorkHall$Timetable" "jobs" "[LWorkHall$Job;" ∈ gW := gw_mem 146 (by decide +kernel) rfl
theorem wd_148 : Cond.fieldLink "WorkHall$Timetable" 17 "WorkHall$Timetable" "times" "[D" ∈ gW := gw_mem 148 (by decide +kernel) rfl
theorem wd_149 : Cond.fieldLink "WorkHall" 232 "WorkHall$Timetable" "times" "[D" ∈ gW := gw_mem 149 (by decide +kernel) rfl
theorem wd_150 : Cond.fieldLink "WorkHall$Timetable" 21 "WorkHall$Timetable" "periods" "[D" ∈ gW := gw_mem 150 (by decide +kernel) rfl
theorem wd_152 : Cond.fieldLink "WorkHall$Timetable" 24 "WorkHall$Timetable" "size" "I" ∈ gW := gw_mem 152 (by decide +kernel) rfl
theorem wd_153 : Cond.fieldLink "WorkHall" 172 "WorkHall$Timetable" "size" "I" ∈ gW := gw_mem 153 (by decide +kernel) rfl
theorem wd_166 : Cond.methodLink "WorkHall" 57 ⟨"java/lang/Math", "max", "(II)I"⟩ ∈ gW := gw_mem 166 (by decide +kernel) rfl
theorem wd_167 : Cond.static ⟨"java/lang/Math", "max", "(II)I"⟩ ∈ gW := gw_mem 167 (by decide +kernel) rfl
theorem wd_169 : Cond.methodLink "WorkHall" 236 ⟨"java/lang/Math", "min", "(II)I"⟩ ∈ gW := gw_mem 169 (by decide +kernel) rfl
theorem wd_170 : Cond.static ⟨"java/lang/Math", "min", "(II)I"⟩ ∈ gW := gw_mem 170 (by decide +kernel) rfl
theorem wd_172 : Cond.fieldLink "WorkHall" 54 "WorkHall" "core" "I" ∈ gW := gw_mem 172 (by decide +kernel) rfl
theorem wd_176 : Cond.fieldLink "WorkHall" 11 "WorkHall" "jobs" "[LWorkHall$Job;" ∈ gW := gw_mem 176 (by decide +kernel) rfl
theorem wd_177 : Cond.fieldLink "WorkHall" 18 "WorkHall" "crew" "LWorkHall$Crew;" ∈ gW := gw_mem 177 (by decide +kernel) rfl
theorem wd_178 : Cond.fieldLink "WorkHall" 25 "WorkHall" "line" "LWorkHall$Line;" ∈ gW := gw_mem 178 (by decide +kernel) rfl
theorem wd_179 : Cond.fieldLink "WorkHall" 32 "WorkHall" "timetable" "LWorkHall$Timetable;" ∈ gW := gw_mem 179 (by decide +kernel) rfl
theorem wd_180 : Cond.fieldLink "WorkHall" 36 "WorkHall" "made" "I" ∈ gW := gw_mem 180 (by decide +kernel) rfl
theorem wd_181 : Cond.fieldLink "WorkHall" 40 "WorkHall" "phase" "I" ∈ gW := gw_mem 181 (by decide +kernel) rfl
theorem wd_182 : Cond.fieldLink "WorkHall" 43 "WorkHall" "finished" "I" ∈ gW := gw_mem 182 (by decide +kernel) rfl
theorem wd_183 : Cond.fieldLink "WorkHall" 46 "WorkHall" "time" "D" ∈ gW := gw_mem 183 (by decide +kernel) rfl
theorem wd_221 : Cond.methodLink "WorkHall" 72 ⟨"WorkHall", "checkRange", "(III)V"⟩ ∈ gW := gw_mem 221 (by decide +kernel) rfl
theorem wd_222 : Cond.static ⟨"WorkHall", "checkRange", "(III)V"⟩ ∈ gW := gw_mem 222 (by decide +kernel) rfl
theorem wd_223 : Cond.code ⟨"WorkHall", "checkRange", "(III)V"⟩ prog_1_method_17_code 3 none ∈ gW := gw_mem 223 (by decide +kernel) rfl
theorem wd_224 : Cond.classLink "WorkHall" 104 "java/lang/IllegalArgumentException" ∈ gW := gw_mem 224 (by decide +kernel) rfl
theorem wd_295 : Cond.classLink "WorkHall" 76 "java/lang/IllegalStateException" ∈ gW := gw_mem 295 (by decide +kernel) rfl
theorem wd_316 : Cond.fieldLink "WorkHall$Job" 25 "WorkHall$Job" "number" "I" ∈ gW := gw_mem 316 (by decide +kernel) rfl
theorem wd_318 : Cond.fieldLink "WorkHall" 203 "WorkHall$Job" "kind" "I" ∈ gW := gw_mem 318 (by decide +kernel) rfl
theorem wd_319 : Cond.fieldLink "WorkHall$Job" 31 "WorkHall$Job" "a" "I" ∈ gW := gw_mem 319 (by decide +kernel) rfl
theorem wd_320 : Cond.fieldLink "WorkHall" 267 "WorkHall$Job" "a" "I" ∈ gW := gw_mem 320 (by decide +kernel) rfl
theorem wd_321 : Cond.fieldLink "WorkHall$Job" 34 "WorkHall$Job" "b" "I" ∈ gW := gw_mem 321 (by decide +kernel) rfl
theorem wd_322 : Cond.fieldLink "WorkHall" 288 "WorkHall$Job" "b" "I" ∈ gW := gw_mem 322 (by decide +kernel) rfl
theorem wd_324 : Cond.fieldLink "WorkHall$Worker" 28 "WorkHall$Job" "cost" "I" ∈ gW := gw_mem 324 (by decide +kernel) rfl
theorem wd_325 : Cond.fieldLink "WorkHall$Job" 9 "WorkHall$Job" "state" "I" ∈ gW := gw_mem 325 (by decide +kernel) rfl
theorem wd_326 : Cond.fieldLink "WorkHall$Worker" 23 "WorkHall$Job" "state" "I" ∈ gW := gw_mem 326 (by decide +kernel) rfl
theorem wd_327 : Cond.fieldLink "WorkHall" 90 "WorkHall$Job" "state" "I" ∈ gW := gw_mem 327 (by decide +kernel) rfl
theorem wd_328 : Cond.fieldLink "WorkHall$Line" 32 "WorkHall$Job" "state" "I" ∈ gW := gw_mem 328 (by decide +kernel) rfl
theorem wd_329 : Cond.fieldLink "WorkHall$Crew" 47 "WorkHall$Job" "state" "I" ∈ gW := gw_mem 329 (by decide +kernel) rfl
theorem wd_330 : Cond.fieldLink "WorkHall$Job" 15 "WorkHall$Job" "result" "I" ∈ gW := gw_mem 330 (by decide +kernel) rfl
theorem wd_331 : Cond.fieldLink "WorkHall" 143 "WorkHall$Job" "result" "I" ∈ gW := gw_mem 331 (by decide +kernel) rfl
theorem wd_332 : Cond.fieldLink "WorkHall$Job" 18 "WorkHall$Job" "thrown" "I" ∈ gW := gw_mem 332 (by decide +kernel) rfl
theorem wd_333 : Cond.fieldLink "WorkHall" 151 "WorkHall$Job" "thrown" "I" ∈ gW := gw_mem 333 (by decide +kernel) rfl
theorem wd_334 : Cond.fieldLink "WorkHall$Job" 21 "WorkHall$Job" "next" "LWorkHall$Job;" ∈ gW := gw_mem 334 (by decide +kernel) rfl
theorem wd_335 : Cond.fieldLink "WorkHall" 115 "WorkHall$Job" "next" "LWorkHall$Job;" ∈ gW := gw_mem 335 (by decide +kernel) rfl
theorem wd_364 : Cond.methodLink "WorkHall" 86 ⟨"WorkHall", "known", "(I)LWorkHall$Job;"⟩ ∈ gW := gw_mem 364 (by decide +kernel) rfl
theorem wd_366 : Cond.instanceMethod ⟨"WorkHall", "known", "(I)LWorkHall$Job;"⟩ ∈ gW := gw_mem 366 (by decide +kernel) rfl
theorem wd_367 : Cond.code ⟨"WorkHall", "known", "(I)LWorkHall$Job;"⟩ prog_1_method_19_code 3 (some (.object "WorkHall$Job")) ∈ gW := gw_mem 367 (by decide +kernel) rfl
theorem wd_368 : Cond.methodLink "WorkHall" 241 ⟨"WorkHall", "find", "(I)LWorkHall$Job;"⟩ ∈ gW := gw_mem 368 (by decide +kernel) rfl
theorem wd_370 : Cond.instanceMethod ⟨"WorkHall", "find", "(I)LWorkHall$Job;"⟩ ∈ gW := gw_mem 370 (by decide +kernel) rfl
theorem wd_371 : Cond.code ⟨"WorkHall", "find", "(I)LWorkHall$Job;"⟩ prog_1_method_20_code 2 (some (.object "WorkHall$Job")) ∈ gW := gw_mem 371 (by decide +kernel) rfl
theorem wd_372 : Cond.classLink "WorkHall" 146 "java/util/NoSuchElementException" ∈ gW := gw_mem 372 (by decide +kernel) rfl
theorem wd_397 : Cond.methodLink "WorkHall$Crew" 25 ⟨"WorkHall$Crew", "placeOf", "(LWorkHall$Job;)I"⟩ ∈ gW := gw_mem 397 (by decide +kernel) rfl
theorem wd_398 : Cond.instanceMethod ⟨"WorkHall$Crew", "placeOf", "(LWorkHall$Job;)I"⟩ ∈ gW := gw_mem 398 (by decide +kernel) rfl
theorem wd_399 : Cond.selects "WorkHall$Crew" ⟨"WorkHall$Crew", "placeOf", "(LWorkHall$Job;)I"⟩ ⟨"WorkHall$Crew", "placeOf", "(LWorkHall$Job;)I"⟩ ∈ gW := gw_mem 399 (by decide +kernel) rfl
theorem wd_400 : Cond.code ⟨"WorkHall$Crew", "placeOf", "(LWorkHall$Job;)I"⟩ prog_2_method_4_code 3 (some .int) ∈ gW := gw_mem 400 (by decide +kernel) rfl
theorem wd_401 : Cond.methodLink "WorkHall$Crew" 29 ⟨"WorkHall$Crew", "at", "(I)LWorkHall$Worker;"⟩ ∈ gW := gw_mem 401 (by decide +kernel) rfl
theorem wd_402 : Cond.instanceMethod ⟨"WorkHall$Crew", "at", "(I)LWorkHall$Worker;"⟩ ∈ gW := gw_mem 402 (by decide +kernel) rfl
theorem wd_403 : Cond.selects "WorkHall$Crew" ⟨"WorkHall$Crew", "at", "(I)LWorkHall$Worker;"⟩ ⟨"WorkHall$Crew", "at", "(I)LWorkHall$Worker;"⟩ ∈ gW := gw_mem 403 (by decide +kernel) rfl
theorem wd_404 : Cond.code ⟨"WorkHall$Crew", "at", "(I)LWorkHall$Worker;"⟩ prog_2_method_2_code 2 (some (.object "WorkHall$Worker")) ∈ gW := gw_mem 404 (by decide +kernel) rfl
theorem wd_405 : Cond.methodLink "WorkHall" 250 ⟨"WorkHall$Crew", "hire", "(LWorkHall$Job;)V"⟩ ∈ gW := gw_mem 405 (by decide +kernel) rfl
theorem wd_406 : Cond.instanceMethod ⟨"WorkHall$Crew", "hire", "(LWorkHall$Job;)V"⟩ ∈ gW := gw_mem 406 (by decide +kernel) rfl
theorem wd_407 : Cond.selects "WorkHall$Crew" ⟨"WorkHall$Crew", "hire", "(LWorkHall$Job;)V"⟩ ⟨"WorkHall$Crew", "hire", "(LWorkHall$Job;)V"⟩ ∈ gW := gw_mem 407 (by decide +kernel) rfl
theorem wd_408 : Cond.code ⟨"WorkHall$Crew", "hire", "(LWorkHall$Job;)V"⟩ prog_2_method_6_code 2 none ∈ gW := gw_mem 408 (by decide +kernel) rfl
theorem wd_409 : Cond.methodLink "WorkHall$Crew" 37 ⟨"WorkHall$Worker", "begin", "(LWorkHall$Job;)V"⟩ ∈ gW := gw_mem 409 (by decide +kernel) rfl
theorem wd_410 : Cond.instanceMethod ⟨"WorkHall$Worker", "begin", "(LWorkHall$Job;)V"⟩ ∈ gW := gw_mem 410 (by decide +kernel) rfl
theorem wd_411 : Cond.selects "WorkHall$Worker" ⟨"WorkHall$Worker", "begin", "(LWorkHall$Job;)V"⟩ ⟨"WorkHall$Worker", "begin", "(LWorkHall$Job;)V"⟩ ∈ gW := gw_mem 411 (by decide +kernel) rfl
theorem wd_412 : Cond.code ⟨"WorkHall$Worker", "begin", "(LWorkHall$Job;)V"⟩ prog_6_method_2_code 2 none ∈ gW := gw_mem 412 (by decide +kernel) rfl
theorem wd_413 : Cond.methodLink "WorkHall$Crew" 41 ⟨"java/lang/Math", "max", "(II)I"⟩ ∈ gW := gw_mem 413 (by decide +kernel) rfl
theorem wd_414 : Cond.methodLink "WorkHall" 254 ⟨"WorkHall$Worker", "begin", "(LWorkHall$Job;)V"⟩ ∈ gW := gw_mem 414 (by decide +kernel) rfl
theorem wd_423 : Cond.methodLink "WorkHall" 131 ⟨"WorkHall$Line", "removeAt", "(I)LWorkHall$Job;"⟩ ∈ gW := gw_mem 423 (by decide +kernel) rfl
theorem wd_424 : Cond.instanceMethod ⟨"WorkHall$Line", "removeAt", "(I)LWorkHall$Job;"⟩ ∈ gW := gw_mem 424 (by decide +kernel) rfl
theorem wd_425 : Cond.selects "WorkHall$Line" ⟨"WorkHall$Line", "removeAt", "(I)LWorkHall$Job;"⟩ ⟨"WorkHall$Line", "removeAt", "(I)LWorkHall$Job;"⟩ ∈ gW := gw_mem 425 (by decide +kernel) rfl
theorem wd_426 : Cond.code ⟨"WorkHall$Line", "removeAt", "(I)LWorkHall$Job;"⟩ prog_4_method_4_code 4 (some (.object "WorkHall$Job")) ∈ gW := gw_mem 426 (by decide +kernel) rfl
theorem wd_431 : Cond.methodLink "WorkHall" 270 ⟨"WorkHall$Job", "succeed", "(I)V"⟩ ∈ gW := gw_mem 431 (by decide +kernel) rfl
theorem wd_432 : Cond.instanceMethod ⟨"WorkHall$Job", "succeed", "(I)V"⟩ ∈ gW := gw_mem 432 (by decide +kernel) rfl
theorem wd_433 : Cond.selects "WorkHall$Job" ⟨"WorkHall$Job", "succeed", "(I)V"⟩ ⟨"WorkHall$Job", "succeed", "(I)V"⟩ ∈ gW := gw_mem 433 (by decide +kernel) rfl
theorem wd_434 : Cond.code ⟨"WorkHall$Job", "succeed", "(I)V"⟩ prog_3_method_3_code 2 none ∈ gW := gw_mem 434 (by decide +kernel) rfl
theorem wd_439 : Cond.methodLink "WorkHall$Job" 40 ⟨"WorkHall$Job", "fail", "(I)V"⟩ ∈ gW := gw_mem 439 (by decide +kernel) rfl
theorem wd_440 : Cond.instanceMethod ⟨"WorkHall$Job", "fail", "(I)V"⟩ ∈ gW := gw_mem 440 (by decide +kernel) rfl
theorem wd_441 : Cond.selects "WorkHall$Job" ⟨"WorkHall$Job", "fail", "(I)V"⟩ ⟨"WorkHall$Job", "fail", "(I)V"⟩ ∈ gW := gw_mem 441 (by decide +kernel) rfl
theorem wd_442 : Cond.code ⟨"WorkHall$Job", "fail", "(I)V"⟩ prog_3_method_4_code 2 none ∈ gW := gw_mem 442 (by decide +kernel) rfl
theorem wd_443 : Cond.methodLink "WorkHall$Job" 44 ⟨"WorkHall$Job", "succeed", "(I)V"⟩ ∈ gW := gw_mem 443 (by decide +kernel) rfl
theorem wd_454 : Cond.methodLink "WorkHall" 285 ⟨"WorkHall$Job", "fail", "(I)V"⟩ ∈ gW := gw_mem 454 (by decide +kernel) rfl
theorem wd_459 : Cond.classLink "WorkHall" 99 "java/lang/UnsupportedOperationException" ∈ gW := gw_mem 459 (by decide +kernel) rfl
theorem wd_484 : Cond.methodLink "WorkHall" 111 ⟨"WorkHall$Job", "nextNumber", "()I"⟩ ∈ gW := gw_mem 484 (by decide +kernel) rfl
theorem wd_485 : Cond.instanceMethod ⟨"WorkHall$Job", "nextNumber", "()I"⟩ ∈ gW := gw_mem 485 (by decide +kernel) rfl
theorem wd_486 : Cond.selects "WorkHall$Job" ⟨"WorkHall$Job", "nextNumber", "()I"⟩ ⟨"WorkHall$Job", "nextNumber", "()I"⟩ ∈ gW := gw_mem 486 (by decide +kernel) rfl
theorem wd_487 : Cond.code ⟨"WorkHall$Job", "nextNumber", "()I"⟩ prog_3_method_2_code 1 (some .int) ∈ gW := gw_mem 487 (by decide +kernel) rfl
theorem wd_503 : Cond.methodLink "WorkHall" 135 ⟨"WorkHall$Crew", "at", "(I)LWorkHall$Worker;"⟩ ∈ gW := gw_mem 503 (by decide +kernel) rfl
theorem wd_508 : Cond.methodLink "WorkHall" 301 ⟨"WorkHall$Crew", "dismiss", "(I)V"⟩ ∈ gW := gw_mem 508 (by decide +kernel) rfl
theorem wd_509 : Cond.instanceMethod ⟨"WorkHall$Crew", "dismiss", "(I)V"⟩ ∈ gW := gw_mem 509 (by decide +kernel) rfl
theorem wd_510 : Cond.selects "WorkHall$Crew" ⟨"WorkHall$Crew", "dismiss", "(I)V"⟩ ⟨"WorkHall$Crew", "dismiss", "(I)V"⟩ ∈ gW := gw_mem 510 (by decide +kernel) rfl
theorem wd_511 : Cond.code ⟨"WorkHall$Crew", "dismiss", "(I)V"⟩ prog_2_method_7_code 4 none ∈ gW := gw_mem 511 (by decide +kernel) rfl
theorem wd_512 : Cond.methodLink "WorkHall" 304 ⟨"WorkHall$Line", "takeFirst", "(D)LWorkHall$Job;"⟩ ∈ gW := gw_mem 512 (by decide +kernel) rfl
theorem wd_513 : Cond.instanceMethod ⟨"WorkHall$Line", "takeFirst", "(D)LWorkHall$Job;"⟩ ∈ gW := gw_mem 513 (by decide +kernel) rfl
theorem wd_514 : Cond.selects "WorkHall$Line" ⟨"WorkHall$Line", "takeFirst", "(D)LWorkHall$Job;"⟩ ⟨"WorkHall$Line", "takeFirst", "(D)LWorkHall$Job;"⟩ ∈ gW := gw_mem 514 (by decide +kernel) rfl
theorem wd_515 : Cond.code ⟨"WorkHall$Line", "takeFirst", "(D)LWorkHall$Job;"⟩ prog_4_method_5_code 3 (some (.object "WorkHall$Job")) ∈ gW := gw_mem 515 (by decide +kernel) rfl
theorem wd_516 : Cond.methodLink "WorkHall$Line" 35 ⟨"WorkHall$Line", "removeAt", "(I)LWorkHall$Job;"⟩ ∈ gW := gw_mem 516 (by decide +kernel) rfl
theorem wd_517 : Cond.methodLink "WorkHall" 139 ⟨"WorkHall", "freeWorker", "(LWorkHall$Worker;)V"⟩ ∈ gW := gw_mem 517 (by decide +kernel) rfl
theorem wd_519 : Cond.instanceMethod ⟨"WorkHall", "freeWorker", "(LWorkHall$Worker;)V"⟩ ∈ gW := gw_mem 519 (by decide +kernel) rfl
theorem wd_520 : Cond.code ⟨"WorkHall", "freeWorker", "(LWorkHall$Worker;)V"⟩ prog_1_method_30_code 3 none ∈ gW := gw_mem 520 (by decide +kernel) rfl
theorem wd_521 : Cond.methodLink "WorkHall" 308 ⟨"WorkHall$Worker", "rest", "(D)V"⟩ ∈ gW := gw_mem 521 (by decide +kernel) rfl
theorem wd_522 : Cond.instanceMethod ⟨"WorkHall$Worker", "rest", "(D)V"⟩ ∈ gW := gw_mem 522 (by decide +kernel) rfl
theorem wd_523 : Cond.selects "WorkHall$Worker" ⟨"WorkHall$Worker", "rest", "(D)V"⟩ ⟨"WorkHall$Worker", "rest", "(D)V"⟩ ∈ gW := gw_mem 523 (by decide +kernel) rfl
theorem wd_524 : Cond.code ⟨"WorkHall$Worker", "rest", "(D)V"⟩ prog_6_method_3_code 3 none ∈ gW := gw_mem 524 (by decide +kernel) rfl
theorem wd_525 : Cond.methodLink "WorkHall" 122 ⟨"WorkHall", "endIfSettled", "()V"⟩ ∈ gW := gw_mem 525 (by decide +kernel) rfl
theorem wd_527 : Cond.instanceMethod ⟨"WorkHall", "endIfSettled", "()V"⟩ ∈ gW := gw_mem 527 (by decide +kernel) rfl
theorem wd_528 : Cond.code ⟨"WorkHall", "endIfSettled", "()V"⟩ prog_1_method_33_code 1 none ∈ gW := gw_mem 528 (by decide +kernel) rfl
theorem wd_529 : Cond.methodLink "WorkHall" 215 ⟨"WorkHall$Crew", "busy", "()I"⟩ ∈ gW := gw_mem 529 (by decide +kernel) rfl
theorem wd_530 : Cond.instanceMethod ⟨"WorkHall$Crew", "busy", "()I"⟩ ∈ gW := gw_mem 530 (by decide +kernel) rfl
theorem wd_531 : Cond.selects "WorkHall$Crew" ⟨"WorkHall$Crew", "busy", "()I"⟩ ⟨"WorkHall$Crew", "busy", "()I"⟩ ∈ gW := gw_mem 531 (by decide +kernel) rfl
theorem wd_532 : Cond.code ⟨"WorkHall$Crew", "busy", "()I"⟩ prog_2_method_5_code 3 (some .int) ∈ gW := gw_mem 532 (by decide +kernel) rfl
theorem wd_541 : Cond.methodLink "WorkHall" 127 ⟨"WorkHall$Line", "placeOf", "(LWorkHall$Job;)I"⟩ ∈ gW := gw_mem 541 (by decide +kernel) rfl
theorem wd_542 : Cond.instanceMethod ⟨"WorkHall$Line", "placeOf", "(LWorkHall$Job;)I"⟩ ∈ gW := gw_mem 542 (by decide +kernel) rfl
theorem wd_543 : Cond.selects "WorkHall$Line" ⟨"WorkHall$Line", "placeOf", "(LWorkHall$Job;)I"⟩ ⟨"WorkHall$Line", "placeOf", "(LWorkHall$Job;)I"⟩ ∈ gW := gw_mem 543 (by decide +kernel) rfl
theorem wd_544 : Cond.code ⟨"WorkHall$Line", "placeOf", "(LWorkHall$Job;)I"⟩ prog_4_method_2_code 3 (some .int) ∈ gW := gw_mem 544 (by decide +kernel) rfl
theorem wd_545 : Cond.methodLink "WorkHall" 134 ⟨"WorkHall$Crew", "placeOf", "(LWorkHall$Job;)I"⟩ ∈ gW := gw_mem 545 (by decide +kernel) rfl
theorem wd_556 : Cond.classLink "WorkHall" 154 "java/lang/ArithmeticException" ∈ gW := gw_mem 556 (by decide +kernel) rfl
theorem wd_572 : Cond.classLink "WorkHall" 159 "java/lang/IndexOutOfBoundsException" ∈ gW := gw_mem 572 (by decide +kernel) rfl
theorem wd_597 : Cond.methodLink "WorkHall" 168 ⟨"WorkHall", "checkSpan", "(DI)V"⟩ ∈ gW := gw_mem 597 (by decide +kernel) rfl
theorem wd_598 : Cond.static ⟨"WorkHall", "checkSpan", "(DI)V"⟩ ∈ gW := gw_mem 598 (by decide +kernel) rfl
theorem wd_599 : Cond.code ⟨"WorkHall", "checkSpan", "(DI)V"⟩ prog_1_method_18_code 3 none ∈ gW := gw_mem 599 (by decide +kernel) rfl
theorem wd_601 : Cond.methodLink "WorkHall" 177 ⟨"WorkHall$Timetable", "put", "(LWorkHall$Job;DD)V"⟩ ∈ gW := gw_mem 601 (by decide +kernel) rfl
theorem wd_602 : Cond.instanceMethod ⟨"WorkHall$Timetable", "put", "(LWorkHall$Job;DD)V"⟩ ∈ gW := gw_mem 602 (by decide +kernel) rfl
theorem wd_603 : Cond.selects "WorkHall$Timetable" ⟨"WorkHall$Timetable", "put", "(LWorkHall$Job;DD)V"⟩ ⟨"WorkHall$Timetable", "put", "(LWorkHall$Job;DD)V"⟩ ∈ gW := gw_mem 603 (by decide +kernel) rfl
theorem wd_604 : Cond.code ⟨"WorkHall$Timetable", "put", "(LWorkHall$Job;DD)V"⟩ prog_5_method_2_code 6 none ∈ gW := gw_mem 604 (by decide +kernel) rfl
theorem wd_616 : Cond.methodLink "WorkHall$Timetable" 28 ⟨"WorkHall$Timetable", "firstPlace", "()I"⟩ ∈ gW := gw_mem 616 (by decide +kernel) rfl
theorem wd_617 : Cond.instanceMethod ⟨"WorkHall$Timetable", "firstPlace", "()I"⟩ ∈ gW := gw_mem 617 (by decide +kernel) rfl
theorem wd_618 : Cond.selects "WorkHall$Timetable" ⟨"WorkHall$Timetable", "firstPlace", "()I"⟩ ⟨"WorkHall$Timetable", "firstPlace", "()I"⟩ ∈ gW := gw_mem 618 (by decide +kernel) rfl
theorem wd_619 : Cond.code ⟨"WorkHall$Timetable", "firstPlace", "()I"⟩ prog_5_method_3_code 3 (some .int) ∈ gW := gw_mem 619 (by decide +kernel) rfl
theorem wd_620 : Cond.methodLink "WorkHall" 185 ⟨"WorkHall$Timetable", "firstPlace", "()I"⟩ ∈ gW := gw_mem 620 (by decide +kernel) rfl
theorem wd_633 : Cond.constantDouble "WorkHall" 321 4626322717216342016 ∈ gW := gw_mem 633 (by decide +kernel) rfl
theorem wd_642 : Cond.methodLink "WorkHall" 197 ⟨"WorkHall$Line", "cancelAll", "()I"⟩ ∈ gW := gw_mem 642 (by decide +kernel) rfl
theorem wd_643 : Cond.instanceMethod ⟨"WorkHall$Line", "cancelAll", "()I"⟩ ∈ gW := gw_mem 643 (by decide +kernel) rfl
theorem wd_644 : Cond.selects "WorkHall$Line" ⟨"WorkHall$Line", "cancelAll", "()I"⟩ ⟨"WorkHall$Line", "cancelAll", "()I"⟩ ∈ gW := gw_mem 644 (by decide +kernel) rfl
theorem wd_645 : Cond.code ⟨"WorkHall$Line", "cancelAll", "()I"⟩ prog_4_method_6_code 3 (some .int) ∈ gW := gw_mem 645 (by decide +kernel) rfl
theorem wd_646 : Cond.methodLink "WorkHall" 200 ⟨"WorkHall$Crew", "cancelAll", "(D)I"⟩ ∈ gW := gw_mem 646 (by decide +kernel) rfl
theorem wd_647 : Cond.instanceMethod ⟨"WorkHall$Crew", "cancelAll", "(D)I"⟩ ∈ gW := gw_mem 647 (by decide +kernel) rfl
theorem wd_648 : Cond.selects "WorkHall$Crew" ⟨"WorkHall$Crew", "cancelAll", "(D)I"⟩ ⟨"WorkHall$Crew", "cancelAll", "(D)I"⟩ ∈ gW := gw_mem 648 (by decide +kernel) rfl
theorem wd_649 : Cond.code ⟨"WorkHall$Crew", "cancelAll", "(D)I"⟩ prog_2_method_8_code 6 (some .int) ∈ gW := gw_mem 649 (by decide +kernel) rfl
theorem wd_650 : Cond.methodLink "WorkHall$Crew" 52 ⟨"WorkHall$Worker", "rest", "(D)V"⟩ ∈ gW := gw_mem 650 (by decide +kernel) rfl
theorem wd_658 : Cond.methodLink "WorkHall" 206 ⟨"WorkHall", "placeOf", "(LWorkHall$Job;)I"⟩ ∈ gW := gw_mem 658 (by decide +kernel) rfl
theorem wd_660 : Cond.instanceMethod ⟨"WorkHall", "placeOf", "(LWorkHall$Job;)I"⟩ ∈ gW := gw_mem 660 (by decide +kernel) rfl
theorem wd_661 : Cond.code ⟨"WorkHall", "placeOf", "(LWorkHall$Job;)I"⟩ prog_1_method_21_code 2 (some .int) ∈ gW := gw_mem 661 (by decide +kernel) rfl
theorem wd_703 : Cond.fieldLink "WorkHallModel" 85 "WorkHallModel" "failed" "I" ∈ gW := gw_mem 703 (by decide +kernel) rfl
theorem wd_704 : Cond.fieldLink "WorkHallModel" 72 "WorkHallModel" "core" "I" ∈ gW := gw_mem 704 (by decide +kernel) rfl
theorem wd_705 : Cond.fieldLink "WorkHallModel" 76 "WorkHallModel" "most" "I" ∈ gW := gw_mem 705 (by decide +kernel) rfl
theorem wd_706 : Cond.fieldLink "WorkHallModel" 79 "WorkHallModel" "room" "I" ∈ gW := gw_mem 706 (by decide +kernel) rfl
theorem wd_707 : Cond.fieldLink "WorkHallModel" 82 "WorkHallModel" "policy" "I" ∈ gW := gw_mem 707 (by decide +kernel) rfl
theorem wd_708 : Cond.fieldLink "WorkHallModel" 7 "WorkHallModel" "kind" "[I" ∈ gW := gw_mem 708 (by decide +kernel) rfl
theorem wd_709 : Cond.fieldLink "WorkHallModel" 13 "WorkHallModel" "a" "[I" ∈ gW := gw_mem 709 (by decide +kernel) rfl
theorem wd_710 : Cond.fieldLink "WorkHallModel" 16 "WorkHallModel" "b" "[I" ∈ gW := gw_mem 710 (by decide +kernel) rfl
theorem wd_711 : Cond.fieldLink "WorkHallModel" 19 "WorkHallModel" "cost" "[I" ∈ gW := gw_mem 711 (by decide +kernel) rfl
theorem wd_712 : Cond.fieldLink "WorkHallModel" 22 "WorkHallModel" "state" "[I" ∈ gW := gw_mem 712 (by decide +kernel) rfl
theorem wd_713 : Cond.fieldLink "WorkHallModel" 25 "WorkHallModel" "next" "[I" ∈ gW := gw_mem 713 (by decide +kernel) rfl
theorem wd_714 : Cond.fieldLink "WorkHallModel" 28 "WorkHallModel" "result" "[I" ∈ gW := gw_mem 714 (by decide +kernel) rfl
theorem wd_715 : Cond.fieldLink "WorkHallModel" 31 "WorkHallModel" "threw" "[I" ∈ gW := gw_mem 715 (by decide +kernel) rfl
theorem wd_716 : Cond.fieldLink "WorkHallModel" 112 "WorkHallModel" "jobs" "I" ∈ gW := gw_mem 716 (by decide +kernel) rfl
theorem wd_717 : Cond.fieldLink "WorkHallModel" 88 "WorkHallModel" "pool" "I" ∈ gW := gw_mem 717 (by decide +kernel) rfl
theorem wd_718 : Cond.fieldLink "WorkHallModel" 34 "WorkHallModel" "who" "[I" ∈ gW := gw_mem 718 (by decide +kernel) rfl
theorem wd_719 : Cond.fieldLink "WorkHallModel" 37 "WorkHallModel" "busy" "[I" ∈ gW := gw_mem 719 (by decide +kernel) rfl
theorem wd_720 : Cond.fieldLink "WorkHallModel" 40 "WorkHallModel" "left" "[I" ∈ gW := gw_mem 720 (by decide +kernel) rfl
theorem wd_721 : Cond.fieldLink "WorkHallModel" 43 "WorkHallModel" "idle" "[D" ∈ gW := gw_mem 721 (by decide +kernel) rfl
theorem wd_722 : Cond.fieldLink "WorkHallModel" 98 "WorkHallModel" "workers" "I" ∈ gW := gw_mem 722 (by decide +kernel) rfl
theorem wd_723 : Cond.fieldLink "WorkHallModel" 118 "WorkHallModel" "named" "I" ∈ gW := gw_mem 723 (by decide +kernel) rfl
theorem wd_724 : Cond.fieldLink "WorkHallModel" 121 "WorkHallModel" "peak" "I" ∈ gW := gw_mem 724 (by decide +kernel) rfl
theorem wd_725 : Cond.fieldLink "WorkHallModel" 47 "WorkHallModel" "queue" "[I" ∈ gW := gw_mem 725 (by decide +kernel) rfl
theorem wd_726 : Cond.fieldLink "WorkHallModel" 50 "WorkHallModel" "came" "[D" ∈ gW := gw_mem 726 (by decide +kernel) rfl
theorem wd_727 : Cond.fieldLink "WorkHallModel" 91 "WorkHallModel" "queued" "I" ∈ gW := gw_mem 727 (by decide +kernel) rfl
theorem wd_728 : Cond.fieldLink "WorkHallModel" 53 "WorkHallModel" "entryJob" "[I" ∈ gW := gw_mem 728 (by decide +kernel) rfl
theorem wd_729 : Cond.fieldLink "WorkHallModel" 56 "WorkHallModel" "entryTime" "[D" ∈ gW := gw_mem 729 (by decide +kernel) rfl
theorem wd_730 : Cond.fieldLink "WorkHallModel" 59 "WorkHallModel" "entryPeriod" "[D" ∈ gW := gw_mem 730 (by decide +kernel) rfl
theorem wd_731 : Cond.fieldLink "WorkHallModel" 101 "WorkHallModel" "entries" "I" ∈ gW := gw_mem 731 (by decide +kernel) rfl
theorem wd_732 : Cond.fieldLink "WorkHallModel" 128 "WorkHallModel" "time" "D" ∈ gW := gw_mem 732 (by decide +kernel) rfl
theorem wd_733 : Cond.fieldLink "WorkHallModel" 179 "WorkHallModel" "ended" "I" ∈ gW := gw_mem 733 (by decide +kernel) rfl
theorem wd_734 : Cond.fieldLink "WorkHallModel" 132 "WorkHallModel" "delaySum" "D" ∈ gW := gw_mem 734 (by decide +kernel) rfl
theorem wd_735 : Cond.fieldLink "WorkHallModel" 135 "WorkHallModel" "delayCount" "I" ∈ gW := gw_mem 735 (by decide +kernel) rfl
theorem wd_736 : Cond.fieldLink "WorkHallModel" 62 "WorkHallModel" "doing" "[I" ∈ gW := gw_mem 736 (by decide +kernel) rfl
theorem wd_737 : Cond.fieldLink "WorkHallModel" 65 "WorkHallModel" "stage" "[I" ∈ gW := gw_mem 737 (by decide +kernel) rfl
theorem wd_738 : Cond.fieldLink "WorkHallModel" 154 "WorkHallModel" "top" "I" ∈ gW := gw_mem 738 (by decide +kernel) rfl
theorem wd_821 : Cond.methodLink "WorkHallModel" 104 ⟨"WorkHallModel", "out", "(II)Z"⟩ ∈ gW := gw_mem 821 (by decide +kernel) rfl
theorem wd_823 : Cond.instanceMethod ⟨"WorkHallModel", "out", "(II)Z"⟩ ∈ gW := gw_mem 823 (by decide +kernel) rfl
theorem wd_824 : Cond.code ⟨"WorkHallModel", "out", "(II)Z"⟩ prog_8_method_5_code 3 (some .boolean) ∈ gW := gw_mem 824 (by decide +kernel) rfl
theorem wd_825 : Cond.methodLink "WorkHallModel" 108 ⟨"WorkHallModel", "fail", "(I)I"⟩ ∈ gW := gw_mem 825 (by decide +kernel) rfl
theorem wd_827 : Cond.instanceMethod ⟨"WorkHallModel", "fail", "(I)I"⟩ ∈ gW := gw_mem 827 (by decide +kernel) rfl
theorem wd_828 : Cond.code ⟨"WorkHallModel", "fail", "(I)I"⟩ prog_8_method_4_code 2 (some .int) ∈ gW := gw_mem 828 (by decide +kernel) rfl
theorem wd_829 : Cond.methodLink "WorkHallModel" 115 ⟨"WorkHallModel", "end", "(I)I"⟩ ∈ gW := gw_mem 829 (by decide +kernel) rfl
theorem wd_831 : Cond.instanceMethod ⟨"WorkHallModel", "end", "(I)I"⟩ ∈ gW := gw_mem 831 (by decide +kernel) rfl
theorem wd_832 : Cond.code ⟨"WorkHallModel", "end", "(I)I"⟩ prog_8_method_6_code 2 (some .int) ∈ gW := gw_mem 832 (by decide +kernel) rfl
theorem wd_833 : Cond.methodLink "WorkHallModel" 94 ⟨"WorkHallModel", "countBusy", "()I"⟩ ∈ gW := gw_mem 833 (by decide +kernel) rfl
theorem wd_835 : Cond.instanceMethod ⟨"WorkHallModel", "countBusy", "()I"⟩ ∈ gW := gw_mem 835 (by decide +kernel) rfl
theorem wd_836 : Cond.code ⟨"WorkHallModel", "countBusy", "()I"⟩ prog_8_method_7_code 3 (some .int) ∈ gW := gw_mem 836 (by decide +kernel) rfl
theorem wd_841 : Cond.methodLink "WorkHallModel" 185 ⟨"WorkHallModel", "submitNow", "(I)V"⟩ ∈ gW := gw_mem 841 (by decide +kernel) rfl
theorem wd_843 : Cond.instanceMethod ⟨"WorkHallModel", "submitNow", "(I)V"⟩ ∈ gW := gw_mem 843 (by decide +kernel) rfl
theorem wd_844 : Cond.code ⟨"WorkHallModel", "submitNow", "(I)V"⟩ prog_8_method_24_code 2 none ∈ gW := gw_mem 844 (by decide +kernel) rfl
theorem wd_845 : Cond.methodLink "WorkHallModel" 160 ⟨"WorkHallModel", "place", "(I)Z"⟩ ∈ gW := gw_mem 845 (by decide +kernel) rfl
theorem wd_847 : Cond.instanceMethod ⟨"WorkHallModel", "place", "(I)Z"⟩ ∈ gW := gw_mem 847 (by decide +kernel) rfl
theorem wd_848 : Cond.code ⟨"WorkHallModel", "place", "(I)Z"⟩ prog_8_method_16_code 3 (some .boolean) ∈ gW := gw_mem 848 (by decide +kernel) rfl
theorem wd_849 : Cond.methodLink "WorkHallModel" 148 ⟨"WorkHallModel", "newWorker", "(I)V"⟩ ∈ gW := gw_mem 849 (by decide +kernel) rfl
theorem wd_851 : Cond.instanceMethod ⟨"WorkHallModel", "newWorker", "(I)V"⟩ ∈ gW := gw_mem 851 (by decide +kernel) rfl
theorem wd_852 : Cond.code ⟨"WorkHallModel", "newWorker", "(I)V"⟩ prog_8_method_9_code 2 none ∈ gW := gw_mem 852 (by decide +kernel) rfl
theorem wd_853 : Cond.methodLink "WorkHallModel" 124 ⟨"WorkHallModel", "work", "(II)V"⟩ ∈ gW := gw_mem 853 (by decide +kernel) rfl
theorem wd_855 : Cond.instanceMethod ⟨"WorkHallModel", "work", "(II)V"⟩ ∈ gW := gw_mem 855 (by decide +kernel) rfl
theorem wd_856 : Cond.code ⟨"WorkHallModel", "work", "(II)V"⟩ prog_8_method_10_code 3 none ∈ gW := gw_mem 856 (by decide +kernel) rfl
theorem wd_857 : Cond.methodLink "WorkHallModel" 151 ⟨"WorkHallModel", "enqueue", "(I)V"⟩ ∈ gW := gw_mem 857 (by decide +kernel) rfl
theorem wd_859 : Cond.instanceMethod ⟨"WorkHallModel", "enqueue", "(I)V"⟩ ∈ gW := gw_mem 859 (by decide +kernel) rfl
theorem wd_860 : Cond.code ⟨"WorkHallModel", "enqueue", "(I)V"⟩ prog_8_method_12_code 2 none ∈ gW := gw_mem 860 (by decide +kernel) rfl
theorem wd_861 : Cond.methodLink "WorkHallModel" 138 ⟨"WorkHallModel", "dequeue", "(I)I"⟩ ∈ gW := gw_mem 861 (by decide +kernel) rfl
theorem wd_863 : Cond.instanceMethod ⟨"WorkHallModel", "dequeue", "(I)I"⟩ ∈ gW := gw_mem 863 (by decide +kernel) rfl
theorem wd_864 : Cond.code ⟨"WorkHallModel", "dequeue", "(I)I"⟩ prog_8_method_13_code 4 (some .int) ∈ gW := gw_mem 864 (by decide +kernel) rfl
theorem wd_865 : Cond.methodLink "WorkHallModel" 182 ⟨"WorkHallModel", "perform", "(I)V"⟩ ∈ gW := gw_mem 865 (by decide +kernel) rfl
theorem wd_867 : Cond.instanceMethod ⟨"WorkHallModel", "perform", "(I)V"⟩ ∈ gW := gw_mem 867 (by decide +kernel) rfl
theorem wd_868 : Cond.code ⟨"WorkHallModel", "perform", "(I)V"⟩ prog_8_method_23_code 6 none ∈ gW := gw_mem 868 (by decide +kernel) rfl
theorem wd_869 : Cond.methodLink "WorkHallModel" 164 ⟨"WorkHallModel", "push", "(I)V"⟩ ∈ gW := gw_mem 869 (by decide +kernel) rfl
theorem wd_871 : Cond.instanceMethod ⟨"WorkHallModel", "push", "(I)V"⟩ ∈ gW := gw_mem 871 (by decide +kernel) rfl
theorem wd_872 : Cond.code ⟨"WorkHallModel", "push", "(I)V"⟩ prog_8_method_17_code 2 none ∈ gW := gw_mem 872 (by decide +kernel) rfl
theorem wd_873 : Cond.methodLink "WorkHallModel" 176 ⟨"WorkHallModel", "performOne", "(I)V"⟩ ∈ gW := gw_mem 873 (by decide +kernel) rfl
theorem wd_875 : Cond.instanceMethod ⟨"WorkHallModel", "performOne", "(I)V"⟩ ∈ gW := gw_mem 875 (by decide +kernel) rfl
theorem wd_876 : Cond.code ⟨"WorkHallModel", "performOne", "(I)V"⟩ prog_8_method_22_code 3 none ∈ gW := gw_mem 876 (by decide +kernel) rfl
theorem wd_877 : Cond.methodLink "WorkHallModel" 167 ⟨"WorkHallModel", "done", "(II)V"⟩ ∈ gW := gw_mem 877 (by decide +kernel) rfl
theorem wd_879 : Cond.instanceMethod ⟨"WorkHallModel", "done", "(II)V"⟩ ∈ gW := gw_mem 879 (by decide +kernel) rfl
theorem wd_880 : Cond.code ⟨"WorkHallModel", "done", "(II)V"⟩ prog_8_method_19_code 3 none ∈ gW := gw_mem 880 (by decide +kernel) rfl
theorem wd_881 : Cond.methodLink "WorkHallModel" 157 ⟨"WorkHallModel", "broke", "(II)V"⟩ ∈ gW := gw_mem 881 (by decide +kernel) rfl
theorem wd_883 : Cond.instanceMethod ⟨"WorkHallModel", "broke", "(II)V"⟩ ∈ gW := gw_mem 883 (by decide +kernel) rfl
theorem wd_884 : Cond.code ⟨"WorkHallModel", "broke", "(II)V"⟩ prog_8_method_20_code 3 none ∈ gW := gw_mem 884 (by decide +kernel) rfl
theorem wd_885 : Cond.methodLink "WorkHallModel" 170 ⟨"WorkHallModel", "isDone", "(I)Z"⟩ ∈ gW := gw_mem 885 (by decide +kernel) rfl
theorem wd_887 : Cond.instanceMethod ⟨"WorkHallModel", "isDone", "(I)Z"⟩ ∈ gW := gw_mem 887 (by decide +kernel) rfl
theorem wd_888 : Cond.code ⟨"WorkHallModel", "isDone", "(I)Z"⟩ prog_8_method_18_code 2 (some .boolean) ∈ gW := gw_mem 888 (by decide +kernel) rfl
theorem wd_889 : Cond.methodLink "WorkHallModel" 173 ⟨"WorkHallModel", "fork", "(II)V"⟩ ∈ gW := gw_mem 889 (by decide +kernel) rfl
theorem wd_891 : Cond.instanceMethod ⟨"WorkHallModel", "fork", "(II)V"⟩ ∈ gW := gw_mem 891 (by decide +kernel) rfl
theorem wd_892 : Cond.code ⟨"WorkHallModel", "fork", "(II)V"⟩ prog_8_method_21_code 4 none ∈ gW := gw_mem 892 (by decide +kernel) rfl
theorem wd_901 : Cond.methodLink "WorkHallModel" 197 ⟨"WorkHallModel", "turn", "(I)V"⟩ ∈ gW := gw_mem 901 (by decide +kernel) rfl
theorem wd_903 : Cond.instanceMethod ⟨"WorkHallModel", "turn", "(I)V"⟩ ∈ gW := gw_mem 903 (by decide +kernel) rfl
theorem wd_904 : Cond.code ⟨"WorkHallModel", "turn", "(I)V"⟩ prog_8_method_29_code 5 none ∈ gW := gw_mem 904 (by decide +kernel) rfl
theorem wd_905 : Cond.methodLink "WorkHallModel" 188 ⟨"WorkHallModel", "place0", "(I)I"⟩ ∈ gW := gw_mem 905 (by decide +kernel) rfl
theorem wd_907 : Cond.instanceMethod ⟨"WorkHallModel", "place0", "(I)I"⟩ ∈ gW := gw_mem 907 (by decide +kernel) rfl
theorem wd_908 : Cond.code ⟨"WorkHallModel", "place0", "(I)I"⟩ prog_8_method_27_code 3 (some .int) ∈ gW := gw_mem 908 (by decide +kernel) rfl
theorem wd_909 : Cond.methodLink "WorkHallModel" 191 ⟨"WorkHallModel", "removeWorker", "(I)V"⟩ ∈ gW := gw_mem 909 (by decide +kernel) rfl
theorem wd_911 : Cond.instanceMethod ⟨"WorkHallModel", "removeWorker", "(I)V"⟩ ∈ gW := gw_mem 911 (by decide +kernel) rfl
theorem wd_912 : Cond.code ⟨"WorkHallModel", "removeWorker", "(I)V"⟩ prog_8_method_28_code 3 none ∈ gW := gw_mem 912 (by decide +kernel) rfl
theorem wd_913 : Cond.methodLink "WorkHallModel" 141 ⟨"WorkHallModel", "fetch", "()I"⟩ ∈ gW := gw_mem 913 (by decide +kernel) rfl
theorem wd_915 : Cond.instanceMethod ⟨"WorkHallModel", "fetch", "()I"⟩ ∈ gW := gw_mem 915 (by decide +kernel) rfl
theorem wd_916 : Cond.code ⟨"WorkHallModel", "fetch", "()I"⟩ prog_8_method_14_code 1 (some .int) ∈ gW := gw_mem 916 (by decide +kernel) rfl
theorem wd_917 : Cond.methodLink "WorkHallModel" 194 ⟨"WorkHallModel", "takeNext", "(I)V"⟩ ∈ gW := gw_mem 917 (by decide +kernel) rfl
theorem wd_919 : Cond.instanceMethod ⟨"WorkHallModel", "takeNext", "(I)V"⟩ ∈ gW := gw_mem 919 (by decide +kernel) rfl
theorem wd_920 : Cond.code ⟨"WorkHallModel", "takeNext", "(I)V"⟩ prog_8_method_15_code 3 none ∈ gW := gw_mem 920 (by decide +kernel) rfl
theorem wd_921 : Cond.methodLink "WorkHallModel" 144 ⟨"WorkHallModel", "rest", "(I)V"⟩ ∈ gW := gw_mem 921 (by decide +kernel) rfl
theorem wd_923 : Cond.instanceMethod ⟨"WorkHallModel", "rest", "(I)V"⟩ ∈ gW := gw_mem 923 (by decide +kernel) rfl
theorem wd_924 : Cond.code ⟨"WorkHallModel", "rest", "(I)V"⟩ prog_8_method_11_code 2 none ∈ gW := gw_mem 924 (by decide +kernel) rfl
theorem wd_929 : Cond.methodLink "WorkHallModel" 200 ⟨"WorkHallModel", "placeInQueue", "(I)I"⟩ ∈ gW := gw_mem 929 (by decide +kernel) rfl
theorem wd_931 : Cond.instanceMethod ⟨"WorkHallModel", "placeInQueue", "(I)I"⟩ ∈ gW := gw_mem 931 (by decide +kernel) rfl
theorem wd_932 : Cond.code ⟨"WorkHallModel", "placeInQueue", "(I)I"⟩ prog_8_method_32_code 3 (some .int) ∈ gW := gw_mem 932 (by decide +kernel) rfl
theorem wd_933 : Cond.methodLink "WorkHallModel" 203 ⟨"WorkHallModel", "workerOf", "(I)I"⟩ ∈ gW := gw_mem 933 (by decide +kernel) rfl
theorem wd_935 : Cond.instanceMethod ⟨"WorkHallModel", "workerOf", "(I)I"⟩ ∈ gW := gw_mem 935 (by decide +kernel) rfl
theorem wd_936 : Cond.code ⟨"WorkHallModel", "workerOf", "(I)I"⟩ prog_8_method_31_code 3 (some .int) ∈ gW := gw_mem 936 (by decide +kernel) rfl
theorem wd_945 : Cond.constantDouble "WorkHallModel" 206 4652007308841189376 ∈ gW := gw_mem 945 (by decide +kernel) rfl
theorem wd_946 : Cond.methodLink "WorkHallModel" 208 ⟨"WorkHallModel", "put", "(IDD)V"⟩ ∈ gW := gw_mem 946 (by decide +kernel) rfl
theorem wd_948 : Cond.instanceMethod ⟨"WorkHallModel", "put", "(IDD)V"⟩ ∈ gW := gw_mem 948 (by decide +kernel) rfl
theorem wd_949 : Cond.code ⟨"WorkHallModel", "put", "(IDD)V"⟩ prog_8_method_36_code 6 none ∈ gW := gw_mem 949 (by decide +kernel) rfl
theorem wd_954 : Cond.constantDouble "WorkHallModel" 212 4636737291354636288 ∈ gW := gw_mem 954 (by decide +kernel) rfl
theorem wd_955 : Cond.methodLink "WorkHallModel" 214 ⟨"WorkHallModel", "first", "()I"⟩ ∈ gW := gw_mem 955 (by decide +kernel) rfl
theorem wd_957 : Cond.instanceMethod ⟨"WorkHallModel", "first", "()I"⟩ ∈ gW := gw_mem 957 (by decide +kernel) rfl
theorem wd_958 : Cond.code ⟨"WorkHallModel", "first", "()I"⟩ prog_8_method_35_code 3 (some .int) ∈ gW := gw_mem 958 (by decide +kernel) rfl
theorem wd_959 : Cond.methodLink "WorkHallModel" 217 ⟨"WorkHallModel", "fire", "(I)V"⟩ ∈ gW := gw_mem 959 (by decide +kernel) rfl
theorem wd_961 : Cond.instanceMethod ⟨"WorkHallModel", "fire", "(I)V"⟩ ∈ gW := gw_mem 961 (by decide +kernel) rfl
theorem wd_962 : Cond.code ⟨"WorkHallModel", "fire", "(I)V"⟩ prog_8_method_38_code 8 none ∈ gW := gw_mem 962 (by decide +kernel) rfl
theorem wd_963 : Cond.constantDouble "WorkHallModel" 220 4626322717216342016 ∈ gW := gw_mem 963 (by decide +kernel) rfl
theorem wm_max : Cond.code Lib.Math.max.name Lib.Math.max.code 2 (some .int) ∈ gW := gw_mem 168 (by decide +kernel) (by decide +kernel)
theorem wm_min : Cond.code Lib.Math.min.name Lib.Math.min.code 2 (some .int) ∈ gW := gw_mem 171 (by decide +kernel) (by decide +kernel)
end
section
abbrev RX0 : String := "WorkHall"
def TX0 : u_T := fun k => match k with
  | 0 => ("WorkHall", "core", "I", true)
  | 1 => ("WorkHall", "most", "I", true)
  | 2 => ("WorkHall", "room", "I", true)
  | 3 => ("WorkHall", "policy", "I", true)
  | 4 => ("WorkHall", "jobs", "[LWorkHall$Job;", true)
  | 5 => ("WorkHall", "crew", "LWorkHall$Crew;", true)
  | 6 => ("WorkHall", "line", "LWorkHall$Line;", true)
  | 7 => ("WorkHall", "timetable", "LWorkHall$Timetable;", true)
  | 8 => ("WorkHall", "made", "I", false)
  | 9 => ("WorkHall", "phase", "I", false)
  | 10 => ("WorkHall", "finished", "I", false)
  | _ => ("WorkHall", "time", "D", false)
def tyX0 : Nat → FieldType := fun k => match k with
  | 0 => .int
  | 1 => .int
  | 2 => .int
  | 3 => .int
  | 4 => .array (.object "WorkHall$Job")
  | 5 => .object "WorkHall$Crew"
  | 6 => .object "WorkHall$Line"
  | 7 => .object "WorkHall$Timetable"
  | 8 => .int
  | 9 => .int
  | 10 => .int
  | _ => .double
theorem nmX0 : ∀ a, a < 12 → ∀ b, b < 12 → a ≠ b → (TX0 a).2.1 ≠ (TX0 b).2.1 := by decide +kernel
theorem tyX0_ok : ∀ k, k < 12 → parseFieldDescriptor (TX0 k).2.2.1 = some (tyX0 k) := by decide +kernel
theorem uwX0 : ∀ w ∈ u_ws RX0 TX0 12, w ∈ gW := by
  have h : (u_ws RX0 TX0 12).all (fun w => decide (w ∈ lw_tbl) && goodWord w) = true := by decide +kernel
  intro w hw
  have h1 := List.all_eq_true.mp h w hw
  simp only [Bool.and_eq_true, decide_eq_true_eq] at h1
  exact List.mem_filter.mpr h1
abbrev RX1 : String := "WorkHall$Crew"
def TX1 : u_T := fun k => match k with
  | 0 => ("WorkHall$Crew", "workers", "[LWorkHall$Worker;", true)
  | 1 => ("WorkHall$Crew", "size", "I", false)
  | _ => ("WorkHall$Crew", "mostSeen", "I", false)
def tyX1 : Nat → FieldType := fun k => match k with
  | 0 => .array (.object "WorkHall$Worker")
  | 1 => .int
  | _ => .int
theorem nmX1 : ∀ a, a < 3 → ∀ b, b < 3 → a ≠ b → (TX1 a).2.1 ≠ (TX1 b).2.1 := by decide +kernel
theorem tyX1_ok : ∀ k, k < 3 → parseFieldDescriptor (TX1 k).2.2.1 = some (tyX1 k) := by decide +kernel
theorem uwX1 : ∀ w ∈ u_ws RX1 TX1 3, w ∈ gW := by
  have h : (u_ws RX1 TX1 3).all (fun w => decide (w ∈ lw_tbl) && goodWord w) = true := by decide +kernel
  intro w hw
  have h1 := List.all_eq_true.mp h w hw
  simp only [Bool.and_eq_true, decide_eq_true_eq] at h1
  exact List.mem_filter.mpr h1
abbrev RX2 : String := "WorkHall$Line"
def TX2 : u_T := fun k => match k with
  | 0 => ("WorkHall$Line", "jobs", "[LWorkHall$Job;", true)
  | 1 => ("WorkHall$Line", "came", "[D", true)
  | 2 => ("WorkHall$Line", "size", "I", false)
  | 3 => ("WorkHall$Line", "taken", "I", false)
  | _ => ("WorkHall$Line", "waited", "D", false)
def tyX2 : Nat → FieldType := fun k => match k with
  | 0 => .array (.object "WorkHall$Job")
  | 1 => .array .double
  | 2 => .int
  | 3 => .int
  | _ => .double
theorem nmX2 : ∀ a, a < 5 → ∀ b, b < 5 → a ≠ b → (TX2 a).2.1 ≠ (TX2 b).2.1 := by decide +kernel
theorem tyX2_ok : ∀ k, k < 5 → parseFieldDescriptor (TX2 k).2.2.1 = some (tyX2 k) := by decide +kernel
theorem uwX2 : ∀ w ∈ u_ws RX2 TX2 5, w ∈ gW := by
  have h : (u_ws RX2 TX2 5).all (fun w => decide (w ∈ lw_tbl) && goodWord w) = true := by decide +kernel
  intro w hw
  have h1 := List.all_eq_true.mp h w hw
  simp only [Bool.and_eq_true, decide_eq_true_eq] at h1
  exact List.mem_filter.mpr h1
abbrev RX3 : String := "WorkHall$Timetable"
def TX3 : u_T := fun k => match k with
  | 0 => ("WorkHall$Timetable", "jobs", "[LWorkHall$Job;", true)
  | 1 => ("WorkHall$Timetable", "times", "[D", true)
  | 2 => ("WorkHall$Timetable", "periods", "[D", true)
  | _ => ("WorkHall$Timetable", "size", "I", false)
def tyX3 : Nat → FieldType := fun k => match k with
  | 0 => .array (.object "WorkHall$Job")
  | 1 => .array .double
  | 2 => .array .double
  | _ => .int
theorem nmX3 : ∀ a, a < 4 → ∀ b, b < 4 → a ≠ b → (TX3 a).2.1 ≠ (TX3 b).2.1 := by decide +kernel
theorem tyX3_ok : ∀ k, k < 4 → parseFieldDescriptor (TX3 k).2.2.1 = some (tyX3 k) := by decide +kernel
theorem uwX3 : ∀ w ∈ u_ws RX3 TX3 4, w ∈ gW := by
  have h : (u_ws RX3 TX3 4).all (fun w => decide (w ∈ lw_tbl) && goodWord w) = true := by decide +kernel
  intro w hw
  have h1 := List.all_eq_true.mp h w hw
  simp only [Bool.and_eq_true, decide_eq_true_eq] at h1
  exact List.mem_filter.mpr h1
abbrev RX4 : String := "WorkHall$Worker"
def TX4 : u_T := fun k => match k with
  | 0 => ("WorkHall$Worker", "job", "LWorkHall$Job;", false)
  | 1 => ("WorkHall$Worker", "left", "I", false)
  | _ => ("WorkHall$Worker", "idleSince", "D", false)
def tyX4 : Nat → FieldType := fun k => match k with
  | 0 => .object "WorkHall$Job"
  | 1 => .int
  | _ => .double
theorem nmX4 : ∀ a, a < 3 → ∀ b, b < 3 → a ≠ b → (TX4 a).2.1 ≠ (TX4 b).2.1 := by decide +kernel
theorem tyX4_ok : ∀ k, k < 3 → parseFieldDescriptor (TX4 k).2.2.1 = some (tyX4 k) := by decide +kernel
theorem uwX4 : ∀ w ∈ u_ws RX4 TX4 3, w ∈ gW := by
  have h : (u_ws RX4 TX4 3).all (fun w => decide (w ∈ lw_tbl) && goodWord w) = true := by decide +kernel
  intro w hw
  have h1 := List.all_eq_true.mp h w hw
  simp only [Bool.and_eq_true, decide_eq_true_eq] at h1
  exact List.mem_filter.mpr h1
abbrev RX5 : String := "WorkHall$Job"
def TX5 : u_T := fun k => match k with
  | 0 => ("WorkHall$Job", "number", "I", true)
  | 1 => ("WorkHall$Job", "kind", "I", true)
  | 2 => ("WorkHall$Job", "a", "I", true)
  | 3 => ("WorkHall$Job", "b", "I", true)
  | 4 => ("WorkHall$Job", "cost", "I", true)
  | 5 => ("WorkHall$Job", "state", "I", false)
  | 6 => ("WorkHall$Job", "result", "I", false)
  | 7 => ("WorkHall$Job", "thrown", "I", false)
  | _ => ("WorkHall$Job", "next", "LWorkHall$Job;", false)
def tyX5 : Nat → FieldType := fun k => match k with
  | 0 => .int
  | 1 => .int
  | 2 => .int
  | 3 => .int
  | 4 => .int
  | 5 => .int
  | 6 => .int
  | 7 => .int
  | _ => .object "WorkHall$Job"
theorem nmX5 : ∀ a, a < 9 → ∀ b, b < 9 → a ≠ b → (TX5 a).2.1 ≠ (TX5 b).2.1 := by decide +kernel
theorem tyX5_ok : ∀ k, k < 9 → parseFieldDescriptor (TX5 k).2.2.1 = some (tyX5 k) := by decide +kernel
theorem uwX5 : ∀ w ∈ u_ws RX5 TX5 9, w ∈ gW := by
  have h : (u_ws RX5 TX5 9).all (fun w => decide (w ∈ lw_tbl) && goodWord w) = true := by decide +kernel
  intro w hw
  have h1 := List.all_eq_true.mp h w hw
  simp only [Bool.and_eq_true, decide_eq_true_eq] at h1
  exact List.mem_filter.mpr h1
abbrev RX6 : String := "WorkHallModel"
def TX6 : u_T := fun k => match k with
  | 0 => ("WorkHallModel", "failed", "I", false)
  | 1 => ("WorkHallModel", "core", "I", true)
  | 2 => ("WorkHallModel", "most", "I", true)
  | 3 => ("WorkHallModel", "room", "I", true)
  | 4 => ("WorkHallModel", "policy", "I", true)
  | 5 => ("WorkHallModel", "kind", "[I", true)
  | 6 => ("WorkHallModel", "a", "[I", true)
  | 7 => ("WorkHallModel", "b", "[I", true)
  | 8 => ("WorkHallModel", "cost", "[I", true)
  | 9 => ("WorkHallModel", "state", "[I", true)
  | 10 => ("WorkHallModel", "next", "[I", true)
  | 11 => ("WorkHallModel", "result", "[I", true)
  | 12 => ("WorkHallModel", "threw", "[I", true)
  | 13 => ("WorkHallModel", "jobs", "I", false)
  | 14 => ("WorkHallModel", "pool", "I", false)
  | 15 => ("WorkHallModel", "who", "[I", true)
  | 16 => ("WorkHallModel", "busy", "[I", true)
  | 17 => ("WorkHallModel", "left", "[I", true)
  | 18 => ("WorkHallModel", "idle", "[D", true)
  | 19 => ("WorkHallModel", "workers", "I", false)
  | 20 => ("WorkHallModel", "named", "I", false)
  | 21 => ("WorkHallModel", "peak", "I", false)
  | 22 => ("WorkHallModel", "queue", "[I", true)
  | 23 => ("WorkHallModel", "came", "[D", true)
  | 24 => ("WorkHallModel", "queued", "I", false)
  | 25 => ("WorkHallModel", "entryJob", "[I", true)
  | 26 => ("WorkHallModel", "entryTime", "[D", true)
  | 27 => ("WorkHallModel", "entryPeriod", "[D", true)
  | 28 => ("WorkHallModel", "entries", "I", false)
  | 29 => ("WorkHallModel", "time", "D", false)
  | 30 => ("WorkHallModel", "ended", "I", false)
  | 31 => ("WorkHallModel", "delaySum", "D", false)
  | 32 => ("WorkHallModel", "delayCount", "I", false)
  | 33 => ("WorkHallModel", "doing", "[I", true)
  | 34 => ("WorkHallModel", "stage", "[I", true)
  | _ => ("WorkHallModel", "top", "I", false)
def tyX6 : Nat → FieldType := fun k => match k with
  | 0 => .int
  | 1 => .int
  | 2 => .int
  | 3 => .int
  | 4 => .int
  | 5 => .array .int
  | 6 => .array .int
  | 7 => .array .int
  | 8 => .array .int
  | 9 => .array .int
  | 10 => .array .int
  | 11 => .array .int
  | 12 => .array .int
  | 13 => .int
  | 14 => .int
  | 15 => .array .int
  | 16 => .array .int
  | 17 => .array .int
  | 18 => .array .double
  | 19 => .int
  | 20 => .int
  | 21 => .int
  | 22 => .array .int
  | 23 => .array .double
  | 24 => .int
  | 25 => .array .int
  | 26 => .array .double
  | 27 => .array .double
  | 28 => .int
  | 29 => .double
  | 30 => .int
  | 31 => .double
  | 32 => .int
  | 33 => .array .int
  | 34 => .array .int
  | _ => .int
theorem nmX6 : ∀ a, a < 36 → ∀ b, b < 36 → a ≠ b → (TX6 a).2.1 ≠ (TX6 b).2.1 := by decide +kernel
theorem tyX6_ok : ∀ k, k < 36 → parseFieldDescriptor (TX6 k).2.2.1 = some (tyX6 k) := by decide +kernel
theorem uwX6 : ∀ w ∈ u_ws RX6 TX6 36, w ∈ gW := by
  have h : (u_ws RX6 TX6 36).all (fun w => decide (w ∈ lw_tbl) && goodWord w) = true := by decide +kernel
  intro w hw
  have h1 := List.all_eq_true.mp h w hw
  simp only [Bool.and_eq_true, decide_eq_true_eq] at h1
  exact List.mem_filter.mpr h1
abbrev vwCl : List vw_C := [(RX0, TX0, 12), (RX1, TX1, 3), (RX2, TX2, 5), (RX3, TX3, 4), (RX4, TX4, 3), (RX5, TX5, 9), (RX6, TX6, 36)]
end
section
def xSup : List String := ["java/lang/RuntimeException", "java/lang/Exception"]
def xSup1 : List String := ["java/lang/Exception"]
/-- words that are kept, but not by the common row -/
def xFace : List Cond := [.castable "java/lang/IllegalArgumentException" "java/lang/IllegalArgumentException", .castable "java/util/NoSuchElementException" "java/util/NoSuchElementException", .castable "java/lang/IllegalStateException" "java/lang/IllegalStateException", .castable "java/lang/UnsupportedOperationException" "java/lang/UnsupportedOperationException", .castable "java/lang/ArithmeticException" "java/lang/ArithmeticException", .castable "java/lang/IndexOutOfBoundsException" "java/lang/IndexOutOfBoundsException", .declares (Bundle.initS "java/lang/RuntimeException"), .declares (Bundle.initS "java/lang/Exception"), .declares (Bundle.initS Bundle.tN)]
theorem xFace_face : ∀ w ∈ xFace, w.faceAtom = true ∧ w.onTables = true := by decide +kernel
theorem tw_iae_in : ∀ w ∈ (vx_atS RX0 108 "java/lang/IllegalArgumentException" xSup).filter goodWord, w ∈ gW := by
  have h : ((vx_atS RX0 108 "java/lang/IllegalArgumentException" xSup).filter goodWord).all (fun w => decide (w ∈ lw_tbl)) = true := by decide +kernel
  intro w hw
  exact List.mem_filter.mpr ⟨of_decide_eq_true (List.all_eq_true.mp h w hw), (List.mem_filter.mp hw).2⟩
theorem tw_iae {args : Array Value} {s : State} (hts : ∀ w ∈ gW, w.before args s = true) (hc : ∀ w ∈ xFace, va_Nw w s) : ∀ w ∈ vx_atS RX0 108 "java/lang/IllegalArgumentException" xSup, w.before args s = true :=
  vx_hat (B := xFace) (fun w hw => hts w (tw_iae_in w hw)) (by decide +kernel) (fun w hw => va_tabs (xFace_face w hw).2 rfl (hc w hw))
theorem tg_iae : ∀ w ∈ Cond.classLink RX0 104 "java/lang/IllegalArgumentException" :: Cond.initialized "java/lang/IllegalArgumentException" :: vx_atS RX0 108 "java/lang/IllegalArgumentException" xSup, vx_ot w = true := by decide +kernel
theorem tw_nse_in : ∀ w ∈ (vn_at RX0 150 "java/util/NoSuchElementException" "java/lang/RuntimeException" 13 prog_19_method_4_code xSup1).filter goodWord, w ∈ gW := by
  have h : ((vn_at RX0 150 "java/util/NoSuchElementException" "java/lang/RuntimeException" 13 prog_19_method_4_code xSup1).filter goodWord).all (fun w => decide (w ∈ lw_tbl)) = true := by decide +kernel
  intro w hw
  exact List.mem_filter.mpr ⟨of_decide_eq_true (List.all_eq_true.mp h w hw), (List.mem_filter.mp hw).2⟩
theorem tw_nse {args : Array Value} {s : State} (hts : ∀ w ∈ gW, w.before args s = true) (hc : ∀ w ∈ xFace, va_Nw w s) : ∀ w ∈ vn_at RX0 150 "java/util/NoSuchElementException" "java/lang/RuntimeException" 13 prog_19_method_4_code xSup1, w.before args s = true :=
  vx_hat (B := xFace) (fun w hw => hts w (tw_nse_in w hw)) (by decide +kernel) (fun w hw => va_tabs (xFace_face w hw).2 rfl (hc w hw))
theorem tg_nse : ∀ w ∈ Cond.classLink RX0 146 "java/util/NoSuchElementException" :: Cond.initialized "java/util/NoSuchElementException" :: vn_at RX0 150 "java/util/NoSuchElementException" "java/lang/RuntimeException" 13 prog_19_method_4_code xSup1, vx_ot w = true := by decide +kernel
theorem tw_ise_in : ∀ w ∈ (vx_atS RX0 80 "java/lang/IllegalStateException" xSup).filter goodWord, w ∈ gW := by
  have h : ((vx_atS RX0 80 "java/lang/IllegalStateException" xSup).filter goodWord).all (fun w => decide (w ∈ lw_tbl)) = true := by decide +kernel
  intro w hw
  exact List.mem_filter.mpr ⟨of_decide_eq_true (List.all_eq_true.mp h w hw), (List.mem_filter.mp hw).2⟩
theorem tw_ise {args : Array Value} {s : State} (hts : ∀ w ∈ gW, w.before args s = true) (hc : ∀ w ∈ xFace, va_Nw w s) : ∀ w ∈ vx_atS RX0 80 "java/lang/IllegalStateException" xSup, w.before args s = true :=
  vx_hat (B := xFace) (fun w hw => hts w (tw_ise_in w hw)) (by decide +kernel) (fun w hw => va_tabs (xFace_face w hw).2 rfl (hc w hw))
theorem tg_ise : ∀ w ∈ Cond.classLink RX0 76 "java/lang/IllegalStateException" :: Cond.initialized "java/lang/IllegalStateException" :: vx_atS RX0 80 "java/lang/IllegalStateException" xSup, vx_ot w = true := by decide +kernel
theorem tw_uoe_in : ∀ w ∈ (vx_atS RX0 103 "java/lang/UnsupportedOperationException" xSup).filter goodWord, w ∈ gW := by
  have h : ((vx_atS RX0 103 "java/lang/UnsupportedOperationException" xSup).filter goodWord).all (fun w => decide (w ∈ lw_tbl)) = true := by decide +kernel
  intro w hw
  exact List.mem_filter.mpr ⟨of_decide_eq_true (List.all_eq_true.mp h w hw), (List.mem_filter.mp hw).2⟩
theorem tw_uoe {args : Array Value} {s : State} (hts : ∀ w ∈ gW, w.before args s = true) (hc : ∀ w ∈ xFace, va_Nw w s) : ∀ w ∈ vx_atS RX0 103 "java/lang/UnsupportedOperationException" xSup, w.before args s = true :=
  vx_hat (B := xFace) (fun w hw => hts w (tw_uoe_in w hw)) (by decide +kernel) (fun w hw => va_tabs (xFace_face w hw).2 rfl (hc w hw))
theorem tg_uoe : ∀ w ∈ Cond.classLink RX0 99 "java/lang/UnsupportedOperationException" :: Cond.initialized "java/lang/UnsupportedOperationException" :: vx_atS RX0 103 "java/lang/UnsupportedOperationException" xSup, vx_ot w = true := by decide +kernel
theorem tw_aex_in : ∀ w ∈ (vx_atS RX0 158 "java/lang/ArithmeticException" xSup).filter goodWord, w ∈ gW := by
  have h : ((vx_atS RX0 158 "java/lang/ArithmeticException" xSup).filter goodWord).all (fun w => decide (w ∈ lw_tbl)) = true := by decide +kernel
  intro w hw
  exact List.mem_filter.mpr ⟨of_decide_eq_true (List.all_eq_true.mp h w hw), (List.mem_filter.mp hw).2⟩
theorem tw_aex {args : Array Value} {s : State} (hts : ∀ w ∈ gW, w.before args s = true) (hc : ∀ w ∈ xFace, va_Nw w s) : ∀ w ∈ vx_atS RX0 158 "java/lang/ArithmeticException" xSup, w.before args s = true :=
  vx_hat (B := xFace) (fun w hw => hts w (tw_aex_in w hw)) (by decide +kernel) (fun w hw => va_tabs (xFace_face w hw).2 rfl (hc w hw))
theorem tg_aex : ∀ w ∈ Cond.classLink RX0 154 "java/lang/ArithmeticException" :: Cond.initialized "java/lang/ArithmeticException" :: vx_atS RX0 158 "java/lang/ArithmeticException" xSup, vx_ot w = true := by decide +kernel
theorem tw_ioe_in : ∀ w ∈ (vx_atS RX0 163 "java/lang/IndexOutOfBoundsException" xSup).filter goodWord, w ∈ gW := by
  have h : ((vx_atS RX0 163 "java/lang/IndexOutOfBoundsException" xSup).filter goodWord).all (fun w => decide (w ∈ lw_tbl)) = true := by decide +kernel
  intro w hw
  exact List.mem_filter.mpr ⟨of_decide_eq_true (List.all_eq_true.mp h w hw), (List.mem_filter.mp hw).2⟩
theorem tw_ioe {args : Array Value} {s : State} (hts : ∀ w ∈ gW, w.before args s = true) (hc : ∀ w ∈ xFace, va_Nw w s) : ∀ w ∈ vx_atS RX0 163 "java/lang/IndexOutOfBoundsException" xSup, w.before args s = true :=
  vx_hat (B := xFace) (fun w hw => hts w (tw_ioe_in w hw)) (by decide +kernel) (fun w hw => va_tabs (xFace_face w hw).2 rfl (hc w hw))
theorem tg_ioe : ∀ w ∈ Cond.classLink RX0 159 "java/lang/IndexOutOfBoundsException" :: Cond.initialized "java/lang/IndexOutOfBoundsException" :: vx_atS RX0 163 "java/lang/IndexOutOfBoundsException" xSup, vx_ot w = true := by decide +kernel
theorem dN_0 : decode prog_19_method_4_code 0 = .ok (.aload_n 0, 1) := by decide +kernel
theorem dN_1 : decode prog_19_method_4_code 1 = .ok (.aload_n 1, 1) := by decide +kernel
theorem dN_2 : decode prog_19_method_4_code 2 = .ok (.invokespecial 13, 3) := by decide +kernel
theorem dN_5 : decode prog_19_method_4_code 5 = .ok (.return_, 1) := by decide +kernel
def xTexts : List (Nat × String) := [(78, "no more jobs can be made"), (93, "the job is not new"), (101, "the job is refused"), (106, "a job can not follow on itself"), (109, "the job is over"), (125, "the job can not be cancelled"), (148, "the job has no result"), (156, "the job divided by zero"), (161, "the job picked beyond the row"), (164, "the job could not fork"), (166, "the job failed"), (175, "the clock takes no entry"), (195, "the pool is not open"), (207, "there is no such worker"), (225, "no job was taken from the queue"), (230, "the clock is empty"), (239, "a number is out of range"), (244, "there is no such job")]
def xPicks (j : Nat) : Int32 := if j = 0 then 2 else if j = 1 then 3 else if j = 2 then 5 else 7
/-- what the class finds outside its world -/
def xE (A : Nat → Prop) (U : State) (H : Heap) : Prop :=
  (∃ t : Nat, va_Z "WorkHall" "PICKS" "[I" (.ref t) A U H ∧ va_T .int t 4 (fun j => .int (xPicks j)) A U H) ∧
  vx_Zq Bundle.tN "UNASSIGNED_STACK" Bundle.steD A U H ∧ vx_Zq Bundle.tN "SUPPRESSED_SENTINEL" Bundle.listD A U H ∧
  (∀ q ∈ xTexts, ∃ sa : Nat, vk_R RX0 q.1 q.2 sa U) ∧ (∀ w ∈ xFace, va_Nw w U) ∧ va_Nw (.fieldLinkNest RX5 47 RX0 "PICKS" "[I" RX0) U
theorem g_face {w : Cond} {u U : State} (hf : w.faceAtom = true ∧ w.onTables = true) (hv : u.vm.Alike U.vm) (h : va_Nw w u) : va_Nw w U :=
  va_tabs hf.2 (rfl : (u.setVm U.vm).vm = U.vm) (Cond.faceAtom_setVm (args := #[]) hv w hf.1 h)
theorem xE_ok : gE xE := by
  refine ⟨?_, ?_, ?_⟩
  · intro A u U H hW h
    obtain ⟨⟨t, hZ, hT⟩, hU, hN, hx, hc, hn⟩ := h
    exact ⟨⟨t, hZ.moved hW.alike, hT.moved hW.alike⟩, hU.moved hW.alike, hN.moved hW.alike, fun q hq => by obtain ⟨sa, h⟩ := hx q hq; exact ⟨sa, h.warm hW⟩, fun w hw => g_face (xFace_face w hw) hW.alike (hc w hw), va_Nw.warmF hW hn⟩
  · intro A U H H1 hk h
    obtain ⟨⟨t, hZ, hT⟩, hU, hN, hr⟩ := h
    exact ⟨⟨t, hZ.kept hk, hT.kept hk⟩, hU.kept hk, hN.kept hk, hr⟩
  · intro A B U H hAB h
    obtain ⟨⟨t, hZ, hT⟩, hU, hN, hr⟩ := h
    exact ⟨⟨t, hZ.narrow hAB, hT.narrow hAB⟩, hU.narrow hAB, hN.narrow hAB, hr⟩
section XE
variable {A : Nat → Prop} {U : State} {H : Heap}
theorem xE_pick (h : xE A U H) : ∃ t : Nat, va_Z "WorkHall" "PICKS" "[I" (.ref t) A U H ∧ va_T .int t 4 (fun j => .int (xPicks j)) A U H := h.1
theorem xE_U (h : xE A U H) : vx_Zq Bundle.tN "UNASSIGNED_STACK" Bundle.steD A U H := h.2.1
theorem xE_N (h : xE A U H) : vx_Zq Bundle.tN "SUPPRESSED_SENTINEL" Bundle.listD A U H := h.2.2.1
theorem xE_text (h : xE A U H) (k : Nat) (t : String) (hm : (k, t) ∈ xTexts) : ∃ sa : Nat, vk_R RX0 k t sa U := h.2.2.2.1 (k, t) hm
theorem xE_face (h : xE A U H) : ∀ w ∈ xFace, va_Nw w U := h.2.2.2.2.1
theorem xE_nest {args : Array Value} (h : xE A U H) : (Cond.fieldLinkNest RX5 47 RX0 "PICKS" "[I" RX0).before args U = true := va_tabs rfl rfl h.2.2.2.2.2
end XE
def mE (_ : Nat → Prop) (_ : State) (_ : Heap) : Prop := True
theorem mE_ok : gE mE := ⟨fun _ _ _ _ _ h => h, fun _ _ _ _ _ h => h, fun _ _ _ _ _ h => h⟩
end
section
/-- what stays: core, most, room, policy, made; the workers; the jobs; what a job is made of; the array of the jobs -/
abbrev KX : Type := (Nat → Int32) × List Nat × List Nat × (Nat → Nat → Int32) × (Nat → Option Nat)
abbrev KM : Type := Nat → Int32
abbrev xT (ca : Nat → ClassId) : List (ClassId × FieldType) := [(ca 0, .object "WorkHall$Job"), (ca 1, .object "WorkHall$Worker"), (ca 2, .double)]
abbrev mT (ca : Nat → ClassId) : List (ClassId × FieldType) := [(ca 0, .int), (ca 1, .double)]
def wXc (ad : Nat → Nat) (ca : Nat → ClassId) (K : KX) (u : gS) : va_W := [
  (ad 0, .inr (0, [.int (K.1 0), .int (K.1 1), .int (K.1 2), .int (K.1 3), .ref (ad 1), .ref (ad 2), .ref (ad 4), .ref (ad 7), .int (K.1 4), .int (sI u 0), .int (sI u 1), .double (sD u 0)])),
  (ad 1, .inl (ca 0, 24, .inr (.inr (.inr (.inr K.2.2.2.2))))),
  (ad 2, .inr (1, [.ref (ad 3), .int (sI u 2), .int (sI u 3)])),
  (ad 3, .inl (ca 1, 5, .inr (.inr (.inr (.inr (sQ u 0)))))),
  (ad 4, .inr (2, [.ref (ad 5), .ref (ad 6), .int (sI u 4), .int (sI u 5), .double (sD u 1)])),
  (ad 5, .inl (ca 0, 4, .inr (.inr (.inr (.inr (sQ u 1)))))),
  (ad 6, .inl (ca 2, 4, .inr (.inr (.inr (.inl (sB u 0)))))),
  (ad 7, .inr (3, [.ref (ad 8), .ref (ad 9), .ref (ad 10), .int (sI u 6)])),
  (ad 8, .inl (ca 0, 10, .inr (.inr (.inr (.inr (sQ u 2)))))),
  (ad 9, .inl (ca 2, 10, .inr (.inr (.inr (.inl (sB u 1)))))),
  (ad 10, .inl (ca 2, 10, .inr (.inr (.inr (.inl (sB u 2))))))]
def xW (K : KX) (u : gS) (a : Nat) : va_E := .inr (4, [va_rf (sQ u 4 a), .int (sA u 3 a), .double (sB u 3 a)])
def xJ (K : KX) (u : gS) (a : Nat) : va_E := .inr (5, [.int (K.2.2.2.1 a 0), .int (K.2.2.2.1 a 1), .int (K.2.2.2.1 a 2), .int (K.2.2.2.1 a 3), .int (K.2.2.2.1 a 4), .int (sA u 0 a), .int (sA u 1 a), .int (sA u 2 a), va_rf (sQ u 3 a)])
def wX (ad : Nat → Nat) (ca : Nat → ClassId) (K : KX) (u : gS) : va_W := ((wXc ad ca K u ++ va_pl K.2.1 (xW K u)) ++ va_pl K.2.2.1 (xJ K u))
theorem wX_f0_phase (ad : Nat → Nat) (ca : Nat → ClassId) (K : KX) (u : gS) (v : Int32) : wX ad ca K (tI u 0 v) = (wX ad ca K u).set 0 (ad 0, .inr (0, ([.int (K.1 0), .int (K.1 1), .int (K.1 2), .int (K.1 3), .ref (ad 1), .ref (ad 2), .ref (ad 4), .ref (ad 7), .int (K.1 4), .int (sI u 0), .int (sI u 1), .double (sD u 0)] : List Value).set 9 (.int v))) := rfl
theorem wX_f0_finished (ad : Nat → Nat) (ca : Nat → ClassId) (K : KX) (u : gS) (v : Int32) : wX ad ca K (tI u 1 v) = (wX ad ca K u).set 0 (ad 0, .inr (0, ([.int (K.1 0), .int (K.1 1), .int (K.1 2), .int (K.1 3), .ref (ad 1), .ref (ad 2), .ref (ad 4), .ref (ad 7), .int (K.1 4), .int (sI u 0), .int (sI u 1), .double (sD u 0)] : List Value).set 10 (.int v))) := rfl
theorem wX_f0_time (ad : Nat → Nat) (ca : Nat → ClassId) (K : KX) (u : gS) (v : UInt64) : wX ad ca K (tD u 0 v) = (wX ad ca K u).set 0 (ad 0, .inr (0, ([.int (K.1 0), .int (K.1 1), .int (K.1 2), .int (K.1 3), .ref (ad 1), .ref (ad 2), .ref (ad 4), .ref (ad 7), .int (K.1 4), .int (sI u 0), .int (sI u 1), .double (sD u 0)] : List Value).set 11 (.double v))) := rfl
theorem wX_f2_size (ad : Nat → Nat) (ca : Nat → ClassId) (K : KX) (u : gS) (v : Int32) : wX ad ca K (tI u 2 v) = (wX ad ca K u).set 2 (ad 2, .inr (1, ([.ref (ad 3), .int (sI u 2), .int (sI u 3)] : List Value).set 1 (.int v))) := rfl
theorem wX_f2_mostSeen (ad : Nat → Nat) (ca : Nat → ClassId) (K : KX) (u : gS) (v : Int32) : wX ad ca K (tI u 3 v) = (wX ad ca K u).set 2 (ad 2, .inr (1, ([.ref (ad 3), .int (sI u 2), .int (sI u 3)] : List Value).set 2 (.int v))) := rfl
theorem wX_f4_size (ad : Nat → Nat) (ca : Nat → ClassId) (K : KX) (u : gS) (v : Int32) : wX ad ca K (tI u 4 v) = (wX ad ca K u).set 4 (ad 4, .inr (2, ([.ref (ad 5), .ref (ad 6), .int (sI u 4), .int (sI u 5), .double (sD u 1)] : List Value).set 2 (.int v))) := rfl
theorem wX_f4_taken (ad : Nat → Nat) (ca : Nat → ClassId) (K : KX) (u : gS) (v : Int32) : wX ad ca K (tI u 5 v) = (wX ad ca K u).set 4 (ad 4, .inr (2, ([.ref (ad 5), .ref (ad 6), .int (sI u 4), .int (sI u 5), .double (sD u 1)] : List Value).set 3 (.int v))) := rfl
theorem wX_f4_waited (ad : Nat → Nat) (ca : Nat → ClassId) (K : KX) (u : gS) (v : UInt64) : wX ad ca K (tD u 1 v) = (wX ad ca K u).set 4 (ad 4, .inr (2, ([.ref (ad 5), .ref (ad 6), .int (sI u 4), .int (sI u 5), .double (sD u 1)] : List Value).set 4 (.double v))) := rfl
theorem wX_f7_size (ad : Nat → Nat) (ca : Nat → ClassId) (K : KX) (u : gS) (v : Int32) : wX ad ca K (tI u 6 v) = (wX ad ca K u).set 7 (ad 7, .inr (3, ([.ref (ad 8), .ref (ad 9), .ref (ad 10), .int (sI u 6)] : List Value).set 3 (.int v))) := rfl
theorem wX_a3 (ad : Nat → Nat) (ca : Nat → ClassId) (K : KX) (u : gS) (i : Nat) (v : Option Nat) : wX ad ca K (tQ u 0 i v) = (wX ad ca K u).set 3 (ad 3, .inl (ca 1, 5, .inr (.inr (.inr (.inr (va_up (sQ u 0) i v)))))) := rfl
theorem wX_a5 (ad : Nat → Nat) (ca : Nat → ClassId) (K : KX) (u : gS) (i : Nat) (v : Option Nat) : wX ad ca K (tQ u 1 i v) = (wX ad ca K u).set 5 (ad 5, .inl (ca 0, 4, .inr (.inr (.inr (.inr (va_up (sQ u 1) i v)))))) := rfl
theorem wX_a6 (ad : Nat → Nat) (ca : Nat → ClassId) (K : KX) (u : gS) (i : Nat) (v : UInt64) : wX ad ca K (tB u 0 i v) = (wX ad ca K u).set 6 (ad 6, .inl (ca 2, 4, .inr (.inr (.inr (.inl (vf_upd (sB u 0) i v)))))) := rfl
theorem wX_a8 (ad : Nat → Nat) (ca : Nat → ClassId) (K : KX) (u : gS) (i : Nat) (v : Option Nat) : wX ad ca K (tQ u 2 i v) = (wX ad ca K u).set 8 (ad 8, .inl (ca 0, 10, .inr (.inr (.inr (.inr (va_up (sQ u 2) i v)))))) := rfl
theorem wX_a9 (ad : Nat → Nat) (ca : Nat → ClassId) (K : KX) (u : gS) (i : Nat) (v : UInt64) : wX ad ca K (tB u 1 i v) = (wX ad ca K u).set 9 (ad 9, .inl (ca 2, 10, .inr (.inr (.inr (.inl (vf_upd (sB u 1) i v)))))) := rfl
theorem wX_a10 (ad : Nat → Nat) (ca : Nat → ClassId) (K : KX) (u : gS) (i : Nat) (v : UInt64) : wX ad ca K (tB u 2 i v) = (wX ad ca K u).set 10 (ad 10, .inl (ca 2, 10, .inr (.inr (.inr (.inl (vf_upd (sB u 2) i v)))))) := rfl
theorem xW_get {ad : Nat → Nat} {ca : Nat → ClassId} {K : KX} {u : gS} {a : Nat} (h : a ∈ K.2.1) : ∃ k : Nat, (wX ad ca K u)[k]? = some (a, xW K u a) := g2_get h
theorem xW_job {ad : Nat → Nat} {ca : Nat → ClassId} {K : KX} {u : gS} {a : Nat} {A : Nat → Prop} {k : Nat} {v : Option Nat} (hD : va_D A (wX ad ca K u)) (h : a ∈ K.2.1) (hk : (wX ad ca K u)[k]? = some (a, xW K u a)) : (wX ad ca K u).set k (a, .inr (4, ([va_rf (sQ u 4 a), .int (sA u 3 a), .double (sB u 3 a)] : List Value).set 0 (va_rf v))) = wX ad ca K (tQ u 4 a v) := by
  have e1 : xW K (tQ u 4 a v) = va_up (xW K u) a (.inr (4, ([va_rf (sQ u 4 a), .int (sA u 3 a), .double (sB u 3 a)] : List Value).set 0 (va_rf v))) := by
    funext b
    unfold va_up
    by_cases hb : b = a
    · rw [if_pos hb, hb]
      simp [xW, sA_tA, sA_tB, sA_tQ, sB_tA, sB_tB, sB_tQ, sQ_tA, sQ_tB, sQ_tQ]
    · rw [if_neg hb]
      simp [xW, hb, sA_tA, sA_tB, sA_tQ, sB_tA, sB_tB, sB_tQ, sQ_tA, sQ_tB, sQ_tQ]
  refine (g2_set hD h hk).trans ?_
  rw [← e1]
  rfl
theorem xW_left {ad : Nat → Nat} {ca : Nat → ClassId} {K : KX} {u : gS} {a : Nat} {A : Nat → Prop} {k : Nat} {v : Int32} (hD : va_D A (wX ad ca K u)) (h : a ∈ K.2.1) (hk : (wX ad ca K u)[k]? = some (a, xW K u a)) : (wX ad ca K u).set k (a, .inr (4, ([va_rf (sQ u 4 a), .int (sA u 3 a), .double (sB u 3 a)] : List Value).set 1 (.int v))) = wX ad ca K (tA u 3 a v) := by
  have e1 : xW K (tA u 3 a v) = va_up (xW K u) a (.inr (4, ([va_rf (sQ u 4 a), .int (sA u 3 a), .double (sB u 3 a)] : List Value).set 1 (.int v))) := by
    funext b
    unfold va_up
    by_cases hb : b = a
    · rw [if_pos hb, hb]
      simp [xW, sA_tA, sA_tB, sA_tQ, sB_tA, sB_tB, sB_tQ, sQ_tA, sQ_tB, sQ_tQ]
    · rw [if_neg hb]
      simp [xW, hb, sA_tA, sA_tB, sA_tQ, sB_tA, sB_tB, sB_tQ, sQ_tA, sQ_tB, sQ_tQ]
  refine (g2_set hD h hk).trans ?_
  rw [← e1]
  rfl
theorem xW_idleSince {ad : Nat → Nat} {ca : Nat → ClassId} {K : KX} {u : gS} {a : Nat} {A : Nat → Prop} {k : Nat} {v : UInt64} (hD : va_D A (wX ad ca K u)) (h : a ∈ K.2.1) (hk : (wX ad ca K u)[k]? = some (a, xW K u a)) : (wX ad ca K u).set k (a, .inr (4, ([va_rf (sQ u 4 a), .int (sA u 3 a), .double (sB u 3 a)] : List Value).set 2 (.double v))) = wX ad ca K (tB u 3 a v) := by
  have e1 : xW K (tB u 3 a v) = va_up (xW K u) a (.inr (4, ([va_rf (sQ u 4 a), .int (sA u 3 a), .double (sB u 3 a)] : List Value).set 2 (.double v))) := by
    funext b
    unfold va_up
    by_cases hb : b = a
    · rw [if_pos hb, hb]
      simp [xW, sA_tA, sA_tB, sA_tQ, sB_tA, sB_tB, sB_tQ, sQ_tA, sQ_tB, sQ_tQ]
    · rw [if_neg hb]
      simp [xW, hb, sA_tA, sA_tB, sA_tQ, sB_tA, sB_tB, sB_tQ, sQ_tA, sQ_tB, sQ_tQ]
  refine (g2_set hD h hk).trans ?_
  rw [← e1]
  rfl
theorem xJ_get {ad : Nat → Nat} {ca : Nat → ClassId} {K : KX} {u : gS} {a : Nat} (h : a ∈ K.2.2.1) : ∃ k : Nat, (wX ad ca K u)[k]? = some (a, xJ K u a) := va_pl_get h
theorem xJ_state {ad : Nat → Nat} {ca : Nat → ClassId} {K : KX} {u : gS} {a : Nat} {A : Nat → Prop} {k : Nat} {v : Int32} (hD : va_D A (wX ad ca K u)) (h : a ∈ K.2.2.1) (hk : (wX ad ca K u)[k]? = some (a, xJ K u a)) : (wX ad ca K u).set k (a, .inr (5, ([.int (K.2.2.2.1 a 0), .int (K.2.2.2.1 a 1), .int (K.2.2.2.1 a 2), .int (K.2.2.2.1 a 3), .int (K.2.2.2.1 a 4), .int (sA u 0 a), .int (sA u 1 a), .int (sA u 2 a), va_rf (sQ u 3 a)] : List Value).set 5 (.int v))) = wX ad ca K (tA u 0 a v) := by
  have e1 : xJ K (tA u 0 a v) = va_up (xJ K u) a (.inr (5, ([.int (K.2.2.2.1 a 0), .int (K.2.2.2.1 a 1), .int (K.2.2.2.1 a 2), .int (K.2.2.2.1 a 3), .int (K.2.2.2.1 a 4), .int (sA u 0 a), .int (sA u 1 a), .int (sA u 2 a), va_rf (sQ u 3 a)] : List Value).set 5 (.int v))) := by
    funext b
    unfold va_up
    by_cases hb : b = a
    · rw [if_pos hb, hb]
      simp [xJ, sA_tA, sA_tB, sA_tQ, sB_tA, sB_tB, sB_tQ, sQ_tA, sQ_tB, sQ_tQ]
    · rw [if_neg hb]
      simp [xJ, hb, sA_tA, sA_tB, sA_tQ, sB_tA, sB_tB, sB_tQ, sQ_tA, sQ_tB, sQ_tQ]
  refine (va_pl_set hD h hk).trans ?_
  rw [← e1]
  rfl
theorem xJ_result {ad : Nat → Nat} {ca : Nat → ClassId} {K : KX} {u : gS} {a : Nat} {A : Nat → Prop} {k : Nat} {v : Int32} (hD : va_D A (wX ad ca K u)) (h : a ∈ K.2.2.1) (hk : (wX ad ca K u)[k]? = some (a, xJ K u a)) : (wX ad ca K u).set k (a, .inr (5, ([.int (K.2.2.2.1 a 0), .int (K.2.2.2.1 a 1), .int (K.2.2.2.1 a 2), .int (K.2.2.2.1 a 3), .int (K.2.2.2.1 a 4), .int (sA u 0 a), .int (sA u 1 a), .int (sA u 2 a), va_rf (sQ u 3 a)] : List Value).set 6 (.int v))) = wX ad ca K (tA u 1 a v) := by
  have e1 : xJ K (tA u 1 a v) = va_up (xJ K u) a (.inr (5, ([.int (K.2.2.2.1 a 0), .int (K.2.2.2.1 a 1), .int (K.2.2.2.1 a 2), .int (K.2.2.2.1 a 3), .int (K.2.2.2.1 a 4), .int (sA u 0 a), .int (sA u 1 a), .int (sA u 2 a), va_rf (sQ u 3 a)] : List Value).set 6 (.int v))) := by
    funext b
    unfold va_up
    by_cases hb : b = a
    · rw [if_pos hb, hb]
      simp [xJ, sA_tA, sA_tB, sA_tQ, sB_tA, sB_tB, sB_tQ, sQ_tA, sQ_tB, sQ_tQ]
    · rw [if_neg hb]
      simp [xJ, hb, sA_tA, sA_tB, sA_tQ, sB_tA, sB_tB, sB_tQ, sQ_tA, sQ_tB, sQ_tQ]
  refine (va_pl_set hD h hk).trans ?_
  rw [← e1]
  rfl
theorem xJ_thrown {ad : Nat → Nat} {ca : Nat → ClassId} {K : KX} {u : gS} {a : Nat} {A : Nat → Prop} {k : Nat} {v : Int32} (hD : va_D A (wX ad ca K u)) (h : a ∈ K.2.2.1) (hk : (wX ad ca K u)[k]? = some (a, xJ K u a)) : (wX ad ca K u).set k (a, .inr (5, ([.int (K.2.2.2.1 a 0), .int (K.2.2.2.1 a 1), .int (K.2.2.2.1 a 2), .int (K.2.2.2.1 a 3), .int (K.2.2.2.1 a 4), .int (sA u 0 a), .int (sA u 1 a), .int (sA u 2 a), va_rf (sQ u 3 a)] : List Value).set 7 (.int v))) = wX ad ca K (tA u 2 a v) := by
  have e1 : xJ K (tA u 2 a v) = va_up (xJ K u) a (.inr (5, ([.int (K.2.2.2.1 a 0), .int (K.2.2.2.1 a 1), .int (K.2.2.2.1 a 2), .int (K.2.2.2.1 a 3), .int (K.2.2.2.1 a 4), .int (sA u 0 a), .int (sA u 1 a), .int (sA u 2 a), va_rf (sQ u 3 a)] : List Value).set 7 (.int v))) := by
    funext b
    unfold va_up
    by_cases hb : b = a
    · rw [if_pos hb, hb]
      simp [xJ, sA_tA, sA_tB, sA_tQ, sB_tA, sB_tB, sB_tQ, sQ_tA, sQ_tB, sQ_tQ]
    · rw [if_neg hb]
      simp [xJ, hb, sA_tA, sA_tB, sA_tQ, sB_tA, sB_tB, sB_tQ, sQ_tA, sQ_tB, sQ_tQ]
  refine (va_pl_set hD h hk).trans ?_
  rw [← e1]
  rfl
theorem xJ_next {ad : Nat → Nat} {ca : Nat → ClassId} {K : KX} {u : gS} {a : Nat} {A : Nat → Prop} {k : Nat} {v : Option Nat} (hD : va_D A (wX ad ca K u)) (h : a ∈ K.2.2.1) (hk : (wX ad ca K u)[k]? = some (a, xJ K u a)) : (wX ad ca K u).set k (a, .inr (5, ([.int (K.2.2.2.1 a 0), .int (K.2.2.2.1 a 1), .int (K.2.2.2.1 a 2), .int (K.2.2.2.1 a 3), .int (K.2.2.2.1 a 4), .int (sA u 0 a), .int (sA u 1 a), .int (sA u 2 a), va_rf (sQ u 3 a)] : List Value).set 8 (va_rf v))) = wX ad ca K (tQ u 3 a v) := by
  have e1 : xJ K (tQ u 3 a v) = va_up (xJ K u) a (.inr (5, ([.int (K.2.2.2.1 a 0), .int (K.2.2.2.1 a 1), .int (K.2.2.2.1 a 2), .int (K.2.2.2.1 a 3), .int (K.2.2.2.1 a 4), .int (sA u 0 a), .int (sA u 1 a), .int (sA u 2 a), va_rf (sQ u 3 a)] : List Value).set 8 (va_rf v))) := by
    funext b
    unfold va_up
    by_cases hb : b = a
    · rw [if_pos hb, hb]
      simp [xJ, sA_tA, sA_tB, sA_tQ, sB_tA, sB_tB, sB_tQ, sQ_tA, sQ_tB, sQ_tQ]
    · rw [if_neg hb]
      simp [xJ, hb, sA_tA, sA_tB, sA_tQ, sB_tA, sB_tB, sB_tQ, sQ_tA, sQ_tB, sQ_tQ]
  refine (va_pl_set hD h hk).trans ?_
  rw [← e1]
  rfl
def wM (ad : Nat → Nat) (ca : Nat → ClassId) (K : KM) (u : gS) : va_W := [
  (ad 0, .inr (6, [.int (sI u 0), .int (K 0), .int (K 1), .int (K 2), .int (K 3), .ref (ad 1), .ref (ad 2), .ref (ad 3), .ref (ad 4), .ref (ad 5), .ref (ad 6), .ref (ad 7), .ref (ad 8), .int (sI u 1), .int (sI u 2), .ref (ad 9), .ref (ad 10), .ref (ad 11), .ref (ad 12), .int (sI u 3), .int (sI u 4), .int (sI u 5), .ref (ad 13), .ref (ad 14), .int (sI u 6), .ref (ad 15), .ref (ad 16), .ref (ad 17), .int (sI u 7), .double (sD u 0), .int (sI u 8), .double (sD u 1), .int (sI u 9), .ref (ad 18), .ref (ad 19), .int (sI u 10)])),
  (ad 1, .inl (ca 0, 24, .inl (sA u 0))),
  (ad 2, .inl (ca 0, 24, .inl (sA u 1))),
  (ad 3, .inl (ca 0, 24, .inl (sA u 2))),
  (ad 4, .inl (ca 0, 24, .inl (sA u 3))),
  (ad 5, .inl (ca 0, 24, .inl (sA u 4))),
  (ad 6, .inl (ca 0, 24, .inl (sA u 5))),
  (ad 7, .inl (ca 0, 24, .inl (sA u 6))),
  (ad 8, .inl (ca 0, 24, .inl (sA u 7))),
  (ad 9, .inl (ca 0, 8, .inl (sA u 8))),
  (ad 10, .inl (ca 0, 8, .inl (sA u 9))),
  (ad 11, .inl (ca 0, 8, .inl (sA u 10))),
  (ad 12, .inl (ca 1, 8, .inr (.inr (.inr (.inl (sB u 0)))))),
  (ad 13, .inl (ca 0, 8, .inl (sA u 11))),
  (ad 14, .inl (ca 1, 8, .inr (.inr (.inr (.inl (sB u 1)))))),
  (ad 15, .inl (ca 0, 12, .inl (sA u 12))),
  (ad 16, .inl (ca 1, 12, .inr (.inr (.inr (.inl (sB u 2)))))),
  (ad 17, .inl (ca 1, 12, .inr (.inr (.inr (.inl (sB u 3)))))),
  (ad 18, .inl (ca 0, 60, .inl (sA u 13))),
  (ad 19, .inl (ca 0, 60, .inl (sA u 14)))]
theorem wM_f0_failed (ad : Nat → Nat) (ca : Nat → ClassId) (K : KM) (u : gS) (v : Int32) : wM ad ca K (tI u 0 v) = (wM ad ca K u).set 0 (ad 0, .inr (6, ([.int (sI u 0), .int (K 0), .int (K 1), .int (K 2), .int (K 3), .ref (ad 1), .ref (ad 2), .ref (ad 3), .ref (ad 4), .ref (ad 5), .ref (ad 6), .ref (ad 7), .ref (ad 8), .int (sI u 1), .int (sI u 2), .ref (ad 9), .ref (ad 10), .ref (ad 11), .ref (ad 12), .int (sI u 3), .int (sI u 4), .int (sI u 5), .ref (ad 13), .ref (ad 14), .int (sI u 6), .ref (ad 15), .ref (ad 16), .ref (ad 17), .int (sI u 7), .double (sD u 0), .int (sI u 8), .double (sD u 1), .int (sI u 9), .ref (ad 18), .ref (ad 19), .int (sI u 10)] : List Value).set 0 (.int v))) := rfl
theorem wM_f0_jobs (ad : Nat → Nat) (ca : Nat → ClassId) (K : KM) (u : gS) (v : Int32) : wM ad ca K (tI u 1 v) = (wM ad ca K u).set 0 (ad 0, .inr (6, ([.int (sI u 0), .int (K 0), .int (K 1), .int (K 2), .int (K 3), .ref (ad 1), .ref (ad 2), .ref (ad 3), .ref (ad 4), .ref (ad 5), .ref (ad 6), .ref (ad 7), .ref (ad 8), .int (sI u 1), .int (sI u 2), .ref (ad 9), .ref (ad 10), .ref (ad 11), .ref (ad 12), .int (sI u 3), .int (sI u 4), .int (sI u 5), .ref (ad 13), .ref (ad 14), .int (sI u 6), .ref (ad 15), .ref (ad 16), .ref (ad 17), .int (sI u 7), .double (sD u 0), .int (sI u 8), .double (sD u 1), .int (sI u 9), .ref (ad 18), .ref (ad 19), .int (sI u 10)] : List Value).set 13 (.int v))) := rfl
theorem wM_f0_pool (ad : Nat → Nat) (ca : Nat → ClassId) (K : KM) (u : gS) (v : Int32) : wM ad ca K (tI u 2 v) = (wM ad ca K u).set 0 (ad 0, .inr (6, ([.int (sI u 0), .int (K 0), .int (K 1), .int (K 2), .int (K 3), .ref (ad 1), .ref (ad 2), .ref (ad 3), .ref (ad 4), .ref (ad 5), .ref (ad 6), .ref (ad 7), .ref (ad 8), .int (sI u 1), .int (sI u 2), .ref (ad 9), .ref (ad 10), .ref (ad 11), .ref (ad 12), .int (sI u 3), .int (sI u 4), .int (sI u 5), .ref (ad 13), .ref (ad 14), .int (sI u 6), .ref (ad 15), .ref (ad 16), .ref (ad 17), .int (sI u 7), .double (sD u 0), .int (sI u 8), .double (sD u 1), .int (sI u 9), .ref (ad 18), .ref (ad 19), .int (sI u 10)] : List Value).set 14 (.int v))) := rfl
theorem wM_f0_workers (ad : Nat → Nat) (ca : Nat → ClassId) (K : KM) (u : gS) (v : Int32) : wM ad ca K (tI u 3 v) = (wM ad ca K u).set 0 (ad 0, .inr (6, ([.int (sI u 0), .int (K 0), .int (K 1), .int (K 2), .int (K 3), .ref (ad 1), .ref (ad 2), .ref (ad 3), .ref (ad 4), .ref (ad 5), .ref (ad 6), .ref (ad 7), .ref (ad 8), .int (sI u 1), .int (sI u 2), .ref (ad 9), .ref (ad 10), .ref (ad 11), .ref (ad 12), .int (sI u 3), .int (sI u 4), .int (sI u 5), .ref (ad 13), .ref (ad 14), .int (sI u 6), .ref (ad 15), .ref (ad 16), .ref (ad 17), .int (sI u 7), .double (sD u 0), .int (sI u 8), .double (sD u 1), .int (sI u 9), .ref (ad 18), .ref (ad 19), .int (sI u 10)] : List Value).set 19 (.int v))) := rfl
theorem wM_f0_named (ad : Nat → Nat) (ca : Nat → ClassId) (K : KM) (u : gS) (v : Int32) : wM ad ca K (tI u 4 v) = (wM ad ca K u).set 0 (ad 0, .inr (6, ([.int (sI u 0), .int (K 0), .int (K 1), .int (K 2), .int (K 3), .ref (ad 1), .ref (ad 2), .ref (ad 3), .ref (ad 4), .ref (ad 5), .ref (ad 6), .ref (ad 7), .ref (ad 8), .int (sI u 1), .int (sI u 2), .ref (ad 9), .ref (ad 10), .ref (ad 11), .ref (ad 12), .int (sI u 3), .int (sI u 4), .int (sI u 5), .ref (ad 13), .ref (ad 14), .int (sI u 6), .ref (ad 15), .ref (ad 16), .ref (ad 17), .int (sI u 7), .double (sD u 0), .int (sI u 8), .double (sD u 1), .int (sI u 9), .ref (ad 18), .ref (ad 19), .int (sI u 10)] : List Value).set 20 (.int v))) := rfl
theorem wM_f0_peak (ad : Nat → Nat) (ca : Nat → ClassId) (K : KM) (u : gS) (v : Int32) : wM ad ca K (tI u 5 v) = (wM ad ca K u).set 0 (ad 0, .inr (6, ([.int (sI u 0), .int (K 0), .int (K 1), .int (K 2), .int (K 3), .ref (ad 1), .ref (ad 2), .ref (ad 3), .ref (ad 4), .ref (ad 5), .ref (ad 6), .ref (ad 7), .ref (ad 8), .int (sI u 1), .int (sI u 2), .ref (ad 9), .ref (ad 10), .ref (ad 11), .ref (ad 12), .int (sI u 3), .int (sI u 4), .int (sI u 5), .ref (ad 13), .ref (ad 14), .int (sI u 6), .ref (ad 15), .ref (ad 16), .ref (ad 17), .int (sI u 7), .double (sD u 0), .int (sI u 8), .double (sD u 1), .int (sI u 9), .ref (ad 18), .ref (ad 19), .int (sI u 10)] : List Value).set 21 (.int v))) := rfl
theorem wM_f0_queued (ad : Nat → Nat) (ca : Nat → ClassId) (K : KM) (u : gS) (v : Int32) : wM ad ca K (tI u 6 v) = (wM ad ca K u).set 0 (ad 0, .inr (6, ([.int (sI u 0), .int (K 0), .int (K 1), .int (K 2), .int (K 3), .ref (ad 1), .ref (ad 2), .ref (ad 3), .ref (ad 4), .ref (ad 5), .ref (ad 6), .ref (ad 7), .ref (ad 8), .int (sI u 1), .int (sI u 2), .ref (ad 9), .ref (ad 10), .ref (ad 11), .ref (ad 12), .int (sI u 3), .int (sI u 4), .int (sI u 5), .ref (ad 13), .ref (ad 14), .int (sI u 6), .ref (ad 15), .ref (ad 16), .ref (ad 17), .int (sI u 7), .double (sD u 0), .int (sI u 8), .double (sD u 1), .int (sI u 9), .ref (ad 18), .ref (ad 19), .int (sI u 10)] : List Value).set 24 (.int v))) := rfl
theorem wM_f0_entries (ad : Nat → Nat) (ca : Nat → ClassId) (K : KM) (u : gS) (v : Int32) : wM ad ca K (tI u 7 v) = (wM ad ca K u).set 0 (ad 0, .inr (6, ([.int (sI u 0), .int (K 0), .int (K 1), .int (K 2), .int (K 3), .ref (ad 1), .ref (ad 2), .ref (ad 3), .ref (ad 4), .ref (ad 5), .ref (ad 6), .ref (ad 7), .ref (ad 8), .int (sI u 1), .int (sI u 2), .ref (ad 9), .ref (ad 10), .ref (ad 11), .ref (ad 12), .int (sI u 3), .int (sI u 4), .int (sI u 5), .ref (ad 13), .ref (ad 14), .int (sI u 6), .ref (ad 15), .ref (ad 16), .ref (ad 17), .int (sI u 7), .double (sD u 0), .int (sI u 8), .double (sD u 1), .int (sI u 9), .ref (ad 18), .ref (ad 19), .int (sI u 10)] : List Value).set 28 (.int v))) := rfl
theorem wM_f0_time (ad : Nat → Nat) (ca : Nat → ClassId) (K : KM) (u : gS) (v : UInt64) : wM ad ca K (tD u 0 v) = (wM ad ca K u).set 0 (ad 0, .inr (6, ([.int (sI u 0), .int (K 0), .int (K 1), .int (K 2), .int (K 3), .ref (ad 1), .ref (ad 2), .ref (ad 3), .ref (ad 4), .ref (ad 5), .ref (ad 6), .ref (ad 7), .ref (ad 8), .int (sI u 1), .int (sI u 2), .ref (ad 9), .ref (ad 10), .ref (ad 11), .ref (ad 12), .int (sI u 3), .int (sI u 4), .int (sI u 5), .ref (ad 13), .ref (ad 14), .int (sI u 6), .ref (ad 15), .ref (ad 16), .ref (ad 17), .int (sI u 7), .double (sD u 0), .int (sI u 8), .double (sD u 1), .int (sI u 9), .ref (ad 18), .ref (ad 19), .int (sI u 10)] : List Value).set 29 (.double v))) := rfl
theorem wM_f0_ended (ad : Nat → Nat) (ca : Nat → ClassId) (K : KM) (u : gS) (v : Int32) : wM ad ca K (tI u 8 v) = (wM ad ca K u).set 0 (ad 0, .inr (6, ([.int (sI u 0), .int (K 0), .int (K 1), .int (K 2), .int (K 3), .ref (ad 1), .ref (ad 2), .ref (ad 3), .ref (ad 4), .ref (ad 5), .ref (ad 6), .ref (ad 7), .ref (ad 8), .int (sI u 1), .int (sI u 2), .ref (ad 9), .ref (ad 10), .ref (ad 11), .ref (ad 12), .int (sI u 3), .int (sI u 4), .int (sI u 5), .ref (ad 13), .ref (ad 14), .int (sI u 6), .ref (ad 15), .ref (ad 16), .ref (ad 17), .int (sI u 7), .double (sD u 0), .int (sI u 8), .double (sD u 1), .int (sI u 9), .ref (ad 18), .ref (ad 19), .int (sI u 10)] : List Value).set 30 (.int v))) := rfl
theorem wM_f0_delaySum (ad : Nat → Nat) (ca : Nat → ClassId) (K : KM) (u : gS) (v : UInt64) : wM ad ca K (tD u 1 v) = (wM ad ca K u).set 0 (ad 0, .inr (6, ([.int (sI u 0), .int (K 0), .int (K 1), .int (K 2), .int (K 3), .ref (ad 1), .ref (ad 2), .ref (ad 3), .ref (ad 4), .ref (ad 5), .ref (ad 6), .ref (ad 7), .ref (ad 8), .int (sI u 1), .int (sI u 2), .ref (ad 9), .ref (ad 10), .ref (ad 11), .ref (ad 12), .int (sI u 3), .int (sI u 4), .int (sI u 5), .ref (ad 13), .ref (ad 14), .int (sI u 6), .ref (ad 15), .ref (ad 16), .ref (ad 17), .int (sI u 7), .double (sD u 0), .int (sI u 8), .double (sD u 1), .int (sI u 9), .ref (ad 18), .ref (ad 19), .int (sI u 10)] : List Value).set 31 (.double v))) := rfl
theorem wM_f0_delayCount (ad : Nat → Nat) (ca : Nat → ClassId) (K : KM) (u : gS) (v : Int32) : wM ad ca K (tI u 9 v) = (wM ad ca K u).set 0 (ad 0, .inr (6, ([.int (sI u 0), .int (K 0), .int (K 1), .int (K 2), .int (K 3), .ref (ad 1), .ref (ad 2), .ref (ad 3), .ref (ad 4), .ref (ad 5), .ref (ad 6), .ref (ad 7), .ref (ad 8), .int (sI u 1), .int (sI u 2), .ref (ad 9), .ref (ad 10), .ref (ad 11), .ref (ad 12), .int (sI u 3), .int (sI u 4), .int (sI u 5), .ref (ad 13), .ref (ad 14), .int (sI u 6), .ref (ad 15), .ref (ad 16), .ref (ad 17), .int (sI u 7), .double (sD u 0), .int (sI u 8), .double (sD u 1), .int (sI u 9), .ref (ad 18), .ref (ad 19), .int (sI u 10)] : List Value).set 32 (.int v))) := rfl
theorem wM_f0_top (ad : Nat → Nat) (ca : Nat → ClassId) (K : KM) (u : gS) (v : Int32) : wM ad ca K (tI u 10 v) = (wM ad ca K u).set 0 (ad 0, .inr (6, ([.int (sI u 0), .int (K 0), .int (K 1), .int (K 2), .int (K 3), .ref (ad 1), .ref (ad 2), .ref (ad 3), .ref (ad 4), .ref (ad 5), .ref (ad 6), .ref (ad 7), .ref (ad 8), .int (sI u 1), .int (sI u 2), .ref (ad 9), .ref (ad 10), .ref (ad 11), .ref (ad 12), .int (sI u 3), .int (sI u 4), .int (sI u 5), .ref (ad 13), .ref (ad 14), .int (sI u 6), .ref (ad 15), .ref (ad 16), .ref (ad 17), .int (sI u 7), .double (sD u 0), .int (sI u 8), .double (sD u 1), .int (sI u 9), .ref (ad 18), .ref (ad 19), .int (sI u 10)] : List Value).set 35 (.int v))) := rfl
theorem wM_a1 (ad : Nat → Nat) (ca : Nat → ClassId) (K : KM) (u : gS) (i : Nat) (v : Int32) : wM ad ca K (tA u 0 i v) = (wM ad ca K u).set 1 (ad 1, .inl (ca 0, 24, .inl (upd (sA u 0) i v))) := rfl
theorem wM_a2 (ad : Nat → Nat) (ca : Nat → ClassId) (K : KM) (u : gS) (i : Nat) (v : Int32) : wM ad ca K (tA u 1 i v) = (wM ad ca K u).set 2 (ad 2, .inl (ca 0, 24, .inl (upd (sA u 1) i v))) := rfl
theorem wM_a3 (ad : Nat → Nat) (ca : Nat → ClassId) (K : KM) (u : gS) (i : Nat) (v : Int32) : wM ad ca K (tA u 2 i v) = (wM ad ca K u).set 3 (ad 3, .inl (ca 0, 24, .inl (upd (sA u 2) i v))) := rfl
theorem wM_a4 (ad : Nat → Nat) (ca : Nat → ClassId) (K : KM) (u : gS) (i : Nat) (v : Int32) : wM ad ca K (tA u 3 i v) = (wM ad ca K u).set 4 (ad 4, .inl (ca 0, 24, .inl (upd (sA u 3) i v))) := rfl
theorem wM_a5 (ad : Nat → Nat) (ca : Nat → ClassId) (K : KM) (u : gS) (i : Nat) (v : Int32) : wM ad ca K (tA u 4 i v) = (wM ad ca K u).set 5 (ad 5, .inl (ca 0, 24, .inl (upd (sA u 4) i v))) := rfl
theorem wM_a6 (ad : Nat → Nat) (ca : Nat → ClassId) (K : KM) (u : gS) (i : Nat) (v : Int32) : wM ad ca K (tA u 5 i v) = (wM ad ca K u).set 6 (ad 6, .inl (ca 0, 24, .inl (upd (sA u 5) i v))) := rfl
theorem wM_a7 (ad : Nat → Nat) (ca : Nat → ClassId) (K : KM) (u : gS) (i : Nat) (v : Int32) : wM ad ca K (tA u 6 i v) = (wM ad ca K u).set 7 (ad 7, .inl (ca 0, 24, .inl (upd (sA u 6) i v))) := rfl
theorem wM_a8 (ad : Nat → Nat) (ca : Nat → ClassId) (K : KM) (u : gS) (i : Nat) (v : Int32) : wM ad ca K (tA u 7 i v) = (wM ad ca K u).set 8 (ad 8, .inl (ca 0, 24, .inl (upd (sA u 7) i v))) := rfl
theorem wM_a9 (ad : Nat → Nat) (ca : Nat → ClassId) (K : KM) (u : gS) (i : Nat) (v : Int32) : wM ad ca K (tA u 8 i v) = (wM ad ca K u).set 9 (ad 9, .inl (ca 0, 8, .inl (upd (sA u 8) i v))) := rfl
theorem wM_a10 (ad : Nat → Nat) (ca : Nat → ClassId) (K : KM) (u : gS) (i : Nat) (v : Int32) : wM ad ca K (tA u 9 i v) = (wM ad ca K u).set 10 (ad 10, .inl (ca 0, 8, .inl (upd (sA u 9) i v))) := rfl
theorem wM_a11 (ad : Nat → Nat) (ca : Nat → ClassId) (K : KM) (u : gS) (i : Nat) (v : Int32) : wM ad ca K (tA u 10 i v) = (wM ad ca K u).set 11 (ad 11, .inl (ca 0, 8, .inl (upd (sA u 10) i v))) := rfl
theorem wM_a12 (ad : Nat → Nat) (ca : Nat → ClassId) (K : KM) (u : gS) (i : Nat) (v : UInt64) : wM ad ca K (tB u 0 i v) = (wM ad ca K u).set 12 (ad 12, .inl (ca 1, 8, .inr (.inr (.inr (.inl (vf_upd (sB u 0) i v)))))) := rfl
theorem wM_a13 (ad : Nat → Nat) (ca : Nat → ClassId) (K : KM) (u : gS) (i : Nat) (v : Int32) : wM ad ca K (tA u 11 i v) = (wM ad ca K u).set 13 (ad 13, .inl (ca 0, 8, .inl (upd (sA u 11) i v))) := rfl
theorem wM_a14 (ad : Nat → Nat) (ca : Nat → ClassId) (K : KM) (u : gS) (i : Nat) (v : UInt64) : wM ad ca K (tB u 1 i v) = (wM ad ca K u).set 14 (ad 14, .inl (ca 1, 8, .inr (.inr (.inr (.inl (vf_upd (sB u 1) i v)))))) := rfl
theorem wM_a15 (ad : Nat → Nat) (ca : Nat → ClassId) (K : KM) (u : gS) (i : Nat) (v : Int32) : wM ad ca K (tA u 12 i v) = (wM ad ca K u).set 15 (ad 15, .inl (ca 0, 12, .inl (upd (sA u 12) i v))) := rfl
theorem wM_a16 (ad : Nat → Nat) (ca : Nat → ClassId) (K : KM) (u : gS) (i : Nat) (v : UInt64) : wM ad ca K (tB u 2 i v) = (wM ad ca K u).set 16 (ad 16, .inl (ca 1, 12, .inr (.inr (.inr (.inl (vf_upd (sB u 2) i v)))))) := rfl
theorem wM_a17 (ad : Nat → Nat) (ca : Nat → ClassId) (K : KM) (u : gS) (i : Nat) (v : UInt64) : wM ad ca K (tB u 3 i v) = (wM ad ca K u).set 17 (ad 17, .inl (ca 1, 12, .inr (.inr (.inr (.inl (vf_upd (sB u 3) i v)))))) := rfl
theorem wM_a18 (ad : Nat → Nat) (ca : Nat → ClassId) (K : KM) (u : gS) (i : Nat) (v : Int32) : wM ad ca K (tA u 13 i v) = (wM ad ca K u).set 18 (ad 18, .inl (ca 0, 60, .inl (upd (sA u 13) i v))) := rfl
theorem wM_a19 (ad : Nat → Nat) (ca : Nat → ClassId) (K : KM) (u : gS) (i : Nat) (v : Int32) : wM ad ca K (tA u 14 i v) = (wM ad ca K u).set 19 (ad 19, .inl (ca 0, 60, .inl (upd (sA u 14) i v))) := rfl
end
section
theorem dX4_begin_0 : decode prog_6_method_2_code 0 = .ok (.aload_n 1, 1) := by decide +kernel
theorem dX4_begin_1 : decode prog_6_method_2_code 1 = .ok (.iconst 2, 1) := by decide +kernel
theorem dX4_begin_2 : decode prog_6_method_2_code 2 = .ok (.putfield 23, 3) := by decide +kernel
theorem dX4_begin_5 : decode prog_6_method_2_code 5 = .ok (.aload_n 0, 1) := by decide +kernel
theorem dX4_begin_6 : decode prog_6_method_2_code 6 = .ok (.aload_n 1, 1) := by decide +kernel
theorem dX4_begin_7 : decode prog_6_method_2_code 7 = .ok (.putfield 9, 3) := by decide +kernel
theorem dX4_begin_10 : decode prog_6_method_2_code 10 = .ok (.aload_n 0, 1) := by decide +kernel
theorem dX4_begin_11 : decode prog_6_method_2_code 11 = .ok (.aload_n 1, 1) := by decide +kernel
theorem dX4_begin_12 : decode prog_6_method_2_code 12 = .ok (.getfield 28, 3) := by decide +kernel
theorem dX4_begin_15 : decode prog_6_method_2_code 15 = .ok (.putfield 15, 3) := by decide +kernel
theorem dX4_begin_18 : decode prog_6_method_2_code 18 = .ok (.return_, 1) := by decide +kernel
def wpX4_begin (K : KX) (post : gS → Prop) (u : gS) (y0 : Nat) (p1 : Nat) : Prop :=
  ∀ u1 : gS, u1 = tA u 0 p1 2 → (∀ u2 : gS, u2 = tQ u1 4 y0 (some p1) → (∀ u3 : gS, u3 = tA u2 3 y0 (K.2.2.2.1 p1 4) → (post u3)))

set_option maxHeartbeats 8000000 in
set_option maxRecDepth 100000 in
theorem cX4_begin (l : Launch) (dC : Nat → ClassId) (dI : Nat → Nat → Nat) (ad : Nat → Nat) (ca : Nat → ClassId) (K : KX) (sz : Nat) (u : gS) (y0 : Nat) (p1 : Nat) (post : gS → Prop) (hy0 : y0 ∈ K.2.1) (hp1 : p1 ∈ K.2.2.1) (h : wpX4_begin K post u y0 p1) : Met l ⟨"WorkHall$Worker", "begin", "(LWorkHall$Job;)V"⟩ (gw ⟨"WorkHall$Worker", "begin", "(LWorkHall$Job;)V"⟩ prog_6_method_2_code 2 none) ({ frames := 1, cells := 0, slots := 0, locals := 40 } : Room) (va_Pc [.ref y0, .ref p1] (gB (dC, dI) vwCl (xT ca) xE (wX ad ca K u) sz)) (va_Qv post (gAt (dC, dI) vwCl (xT ca) (wX ad ca K) (va_A (wX ad ca K u) sz)) (va_A (wX ad ca K u) sz)) 0 0 (va_A (wX ad ca K u) sz) := by
  refine Met.ofW (cc := prog_6_method_2_code) (maxL := 2) (ret := none) (by decide) rfl ?_
  intro p e s m args below meth c s₁ B hml hv
  obtain ⟨rfl, hsz, hP, hK, hD0, hE⟩ := hv
  have hx := B.exec
  have hb := B.bytes
  have hr := B.returns
  have hts : ∀ w ∈ gW, w.before _ s = true := fun w h9 => atoms_spec (ws := (gw ⟨"WorkHall$Worker", "begin", "(LWorkHall$Job;)V"⟩ prog_6_method_2_code 2 none)) B.pre w (List.mem_cons_of_mem _ h9)
  have hown : s.vm.findClass RX4 = some m.cls := findClass_of_methodNamed B.named
  have hlocks := B.notSynchronized
  subst hsz
  have hD := hD0.self (sz := s.heap.size)
  generalize hAe : va_A (wX ad ca K u) s.heap.size = A at hD hE ⊢
  have hA : ∀ q : Nat, s.heap.size ≤ q → A q := fun q h => by rw [← hAe]; exact Or.inr h
  obtain ⟨H, hHe⟩ : ∃ z : Heap, z = s.heap := ⟨_, rfl⟩
  rw [← hHe]
  have hS : va_S A s.heap H [] := by rw [hHe]; exact va_S.rf
  have hP : va_P (dC, dI) vwCl (wX ad ca K u) H := by rw [hHe]; exact hP
  have hl := lv_entry ([.ref y0, .ref p1]) (n := 2) (Nat.le_of_ble_eq_true rfl)
  rw [lg_entry_eq]
  generalize (lg_sl ([.ref y0, .ref p1]) ++ List.replicate (2 - (lg_sl ([.ref y0, .ref p1])).length) Slot.unset).toArray = ls at hl ⊢
  have hl : lv_has ls 2 [(0, .ref y0), (1, .ref p1)] := hl
  clear hAe
  refine lv_aload_n hx hb dX4_begin_0 rfl (lv_at hl 1 rfl) ?_
  refine lv_iconst (v := 2) hx hb dX4_begin_1 (by decide) ?_
  obtain ⟨k9, hk9⟩ := xJ_get hp1
  have e9 := xJ_state (v := 2) hD hp1 hk9
  refine va_put (D := (dC, dI)) (ci := 5) (v := .int 2) (ty := tyX5 5) (C := RX5) (T := TX5) (N := 9) hx hb hts uwX5 tyX5 tyX5_ok nmX5 hown hK hP hD hS k9 hk9 rfl 5 (by decide) (hts _ wd_326) (fun _ h9 => h9) rfl (tyX5_ok 5 (by decide)) rfl rfl (Nat.le_of_ble_eq_true rfl) dX4_begin_2 (fun H locs hP hD hS => ?_)
  obtain ⟨u1, eu1⟩ : ∃ z : gS, z = tA u 0 p1 2 := ⟨_, rfl⟩
  have hP : va_P (dC, dI) vwCl (wX ad ca K u1) H := by rw [eu1, ← e9]; exact hP
  have hD : va_D A (wX ad ca K u1) := by rw [eu1, ← e9]; exact hD
  have h := h u1 eu1
  refine lv_aload_n hx hb dX4_begin_5 rfl (lv_at hl 0 rfl) ?_
  refine lv_aload_n hx hb dX4_begin_6 rfl (lv_at hl 1 rfl) ?_
  obtain ⟨k9, hk9⟩ := xW_get hy0
  have e9 := xW_job (v := (some p1)) hD hy0 hk9
  refine va_put (D := (dC, dI)) (ci := 4) (v := va_rf (some p1)) (ty := tyX4 0) (C := RX4) (T := TX4) (N := 3) hx hb hts uwX4 tyX4 tyX4_ok nmX4 hown hK hP hD hS k9 hk9 rfl 0 (by decide) (hts _ wd_86) (fun _ h9 => h9) rfl (tyX4_ok 0 (by decide)) rfl rfl (Nat.le_of_ble_eq_true rfl) dX4_begin_7 (fun H locs hP hD hS => ?_)
  obtain ⟨u2, eu2⟩ : ∃ z : gS, z = tQ u1 4 y0 (some p1) := ⟨_, rfl⟩
  have hP : va_P (dC, dI) vwCl (wX ad ca K u2) H := by rw [eu2, ← e9]; exact hP
  have hD : va_D A (wX ad ca K u2) := by rw [eu2, ← e9]; exact hD
  have h := h u2 eu2
  refine lv_aload_n hx hb dX4_begin_10 rfl (lv_at hl 0 rfl) ?_
  refine lv_aload_n hx hb dX4_begin_11 rfl (lv_at hl 1 rfl) ?_
  obtain ⟨k9, hk9⟩ := xJ_get hp1
  refine va_get (D := (dC, dI)) (ci := 5) (v := .int (K.2.2.2.1 p1 4)) (C := RX5) (T := TX5) (N := 9) hx hb hts uwX5 hown hK hP k9 hk9 rfl 4 (by decide) (hts _ wd_324) (fun _ h9 => h9) rfl dX4_begin_12 ?_
  obtain ⟨k9, hk9⟩ := xW_get hy0
  have e9 := xW_left (v := K.2.2.2.1 p1 4) hD hy0 hk9
  refine va_put (D := (dC, dI)) (ci := 4) (v := .int (K.2.2.2.1 p1 4)) (ty := tyX4 1) (C := RX4) (T := TX4) (N := 3) hx hb hts uwX4 tyX4 tyX4_ok nmX4 hown hK hP hD hS k9 hk9 rfl 1 (by decide) (hts _ wd_89) (fun _ h9 => h9) rfl (tyX4_ok 1 (by decide)) rfl rfl (Nat.le_of_ble_eq_true rfl) dX4_begin_15 (fun H locs hP hD hS => ?_)
  obtain ⟨u3, eu3⟩ : ∃ z : gS, z = tA u2 3 y0 (K.2.2.2.1 p1 4) := ⟨_, rfl⟩
  have hP : va_P (dC, dI) vwCl (wX ad ca K u3) H := by rw [eu3, ← e9]; exact hP
  have hD : va_D A (wX ad ca K u3) := by rw [eu3, ← e9]; exact hD
  have h := h u3 eu3
  exact gr_v (w := wX ad ca K) (u := u3) hx hb hr hlocks h hP hK hD hS dX4_begin_18

theorem dX4_rest_0 : decode prog_6_method_3_code 0 = .ok (.aload_n 0, 1) := by decide +kernel
theorem dX4_rest_1 : decode prog_6_method_3_code 1 = .ok (.aconst_null, 1) := by decide +kernel
theorem dX4_rest_2 : decode prog_6_method_3_code 2 = .ok (.putfield 9, 3) := by decide +kernel
theorem dX4_rest_5 : decode prog_6_method_3_code 5 = .ok (.aload_n 0, 1) := by decide +kernel
theorem dX4_rest_6 : decode prog_6_method_3_code 6 = .ok (.iconst 0, 1) := by decide +kernel
theorem dX4_rest_7 : decode prog_6_method_3_code 7 = .ok (.putfield 15, 3) := by decide +kernel
theorem dX4_rest_10 : decode prog_6_method_3_code 10 = .ok (.aload_n 0, 1) := by decide +kernel
theorem dX4_rest_11 : decode prog_6_method_3_code 11 = .ok (.dload_n 1, 1) := by decide +kernel
theorem dX4_rest_12 : decode prog_6_method_3_code 12 = .ok (.putfield 19, 3) := by decide +kernel
theorem dX4_rest_15 : decode prog_6_method_3_code 15 = .ok (.return_, 1) := by decide +kernel
def wpX4_rest (K : KX) (post : gS → Prop) (u : gS) (y0 : Nat) (p1 : UInt64) : Prop :=
  ∀ u1 : gS, u1 = tQ u 4 y0 none → (∀ u2 : gS, u2 = tA u1 3 y0 0 → (∀ u3 : gS, u3 = tB u2 3 y0 p1 → (post u3)))

set_option maxHeartbeats 8000000 in
set_option maxRecDepth 100000 in
theorem cX4_rest (l : Launch) (dC : Nat → ClassId) (dI : Nat → Nat → Nat) (ad : Nat → Nat) (ca : Nat → ClassId) (K : KX) (sz : Nat) (u : gS) (y0 : Nat) (p1 : UInt64) (post : gS → Prop) (hy0 : y0 ∈ K.2.1) (h : wpX4_rest K post u y0 p1) : Met l ⟨"WorkHall$Worker", "rest", "(D)V"⟩ (gw ⟨"WorkHall$Worker", "rest", "(D)V"⟩ prog_6_method_3_code 3 none) ({ frames := 1, cells := 0, slots := 0, locals := 40 } : Room) (va_Pc [.ref y0, .double p1] (gB (dC, dI) vwCl (xT ca) xE (wX ad ca K u) sz)) (va_Qv post (gAt (dC, dI) vwCl (xT ca) (wX ad ca K) (va_A (wX ad ca K u) sz)) (va_A (wX ad ca K u) sz)) 0 0 (va_A (wX ad ca K u) sz) := by
  refine Met.ofW (cc := prog_6_method_3_code) (maxL := 3) (ret := none) (by decide) rfl ?_
  intro p e s m args below meth c s₁ B hml hv
  obtain ⟨rfl, hsz, hP, hK, hD0, hE⟩ := hv
  have hx := B.exec
  have hb := B.bytes
  have hr := B.returns
  have hts : ∀ w ∈ gW, w.before _ s = true := fun w h9 => atoms_spec (ws := (gw ⟨"WorkHall$Worker", "rest", "(D)V"⟩ prog_6_method_3_code 3 none)) B.pre w (List.mem_cons_of_mem _ h9)
  have hown : s.vm.findClass RX4 = some m.cls := findClass_of_methodNamed B.named
  have hlocks := B.notSynchronized
  subst hsz
  have hD := hD0.self (sz := s.heap.size)
  generalize hAe : va_A (wX ad ca K u) s.heap.size = A at hD hE ⊢
  have hA : ∀ q : Nat, s.heap.size ≤ q → A q := fun q h => by rw [← hAe]; exact Or.inr h
  obtain ⟨H, hHe⟩ : ∃ z : Heap, z = s.heap := ⟨_, rfl⟩
  rw [← hHe]
  have hS : va_S A s.heap H [] := by rw [hHe]; exact va_S.rf
  have hP : va_P (dC, dI) vwCl (wX ad ca K u) H := by rw [hHe]; exact hP
  have hl := lv_entry ([.ref y0, .double p1]) (n := 3) (Nat.le_of_ble_eq_true rfl)
  rw [lg_entry_eq]
  generalize (lg_sl ([.ref y0, .double p1]) ++ List.replicate (3 - (lg_sl ([.ref y0, .double p1])).length) Slot.unset).toArray = ls at hl ⊢
  have hl : lv_has ls 3 [(0, .ref y0), (1, .double p1)] := hl
  clear hAe
  refine lv_aload_n hx hb dX4_rest_0 rfl (lv_at hl 0 rfl) ?_
  refine lv_null hx hb dX4_rest_1 ?_
  obtain ⟨k9, hk9⟩ := xW_get hy0
  have e9 := xW_job (v := none) hD hy0 hk9
  refine va_put (D := (dC, dI)) (ci := 4) (v := va_rf none) (ty := tyX4 0) (C := RX4) (T := TX4) (N := 3) hx hb hts uwX4 tyX4 tyX4_ok nmX4 hown hK hP hD hS k9 hk9 rfl 0 (by decide) (hts _ wd_86) (fun _ h9 => h9) rfl (tyX4_ok 0 (by decide)) rfl rfl (Nat.le_of_ble_eq_true rfl) dX4_rest_2 (fun H locs hP hD hS => ?_)
  obtain ⟨u1, eu1⟩ : ∃ z : gS, z = tQ u 4 y0 none := ⟨_, rfl⟩
  have hP : va_P (dC, dI) vwCl (wX ad ca K u1) H := by rw [eu1, ← e9]; exact hP
  have hD : va_D A (wX ad ca K u1) := by rw [eu1, ← e9]; exact hD
  have h := h u1 eu1
  refine lv_aload_n hx hb dX4_rest_5 rfl (lv_at hl 0 rfl) ?_
  refine lv_iconst (v := 0) hx hb dX4_rest_6 (by decide) ?_
  obtain ⟨k9, hk9⟩ := xW_get hy0
  have e9 := xW_left (v := 0) hD hy0 hk9
  refine va_put (D := (dC, dI)) (ci := 4) (v := .int 0) (ty := tyX4 1) (C := RX4) (T := TX4) (N := 3) hx hb hts uwX4 tyX4 tyX4_ok nmX4 hown hK hP hD hS k9 hk9 rfl 1 (by decide) (hts _ wd_89) (fun _ h9 => h9) rfl (tyX4_ok 1 (by decide)) rfl rfl (Nat.le_of_ble_eq_true rfl) dX4_rest_7 (fun H locs hP hD hS => ?_)
  obtain ⟨u2, eu2⟩ : ∃ z : gS, z = tA u1 3 y0 0 := ⟨_, rfl⟩
  have hP : va_P (dC, dI) vwCl (wX ad ca K u2) H := by rw [eu2, ← e9]; exact hP
  have hD : va_D A (wX ad ca K u2) := by rw [eu2, ← e9]; exact hD
  have h := h u2 eu2
  refine lv_aload_n hx hb dX4_rest_10 rfl (lv_at hl 0 rfl) ?_
  refine lv_dload_n hx hb dX4_rest_11 rfl (lv_at hl 1 rfl) ?_
  obtain ⟨k9, hk9⟩ := xW_get hy0
  have e9 := xW_idleSince (v := p1) hD hy0 hk9
  refine va_put (D := (dC, dI)) (ci := 4) (v := .double p1) (ty := tyX4 2) (C := RX4) (T := TX4) (N := 3) hx hb hts uwX4 tyX4 tyX4_ok nmX4 hown hK hP hD hS k9 hk9 rfl 2 (by decide) (hts _ wd_91) (fun _ h9 => h9) rfl (tyX4_ok 2 (by decide)) rfl rfl (Nat.le_of_ble_eq_true rfl) dX4_rest_12 (fun H locs hP hD hS => ?_)
  obtain ⟨u3, eu3⟩ : ∃ z : gS, z = tB u2 3 y0 p1 := ⟨_, rfl⟩
  have hP : va_P (dC, dI) vwCl (wX ad ca K u3) H := by rw [eu3, ← e9]; exact hP
  have hD : va_D A (wX ad ca K u3) := by rw [eu3, ← e9]; exact hD
  have h := h u3 eu3
  exact gr_v (w := wX ad ca K) (u := u3) hx hb hr hlocks h hP hK hD hS dX4_rest_15

theorem dX5_nextNumber_0 : decode prog_3_method_2_code 0 = .ok (.aload_n 0, 1) := by decide +kernel
theorem dX5_nextNumber_1 : decode prog_3_method_2_code 1 = .ok (.getfield 21, 3) := by decide +kernel
theorem dX5_nextNumber_4 : decode prog_3_method_2_code 4 = .ok (.ifnonnull 7, 3) := by decide +kernel
theorem dX5_nextNumber_7 : decode prog_3_method_2_code 7 = .ok (.iconst (-1), 1) := by decide +kernel
theorem dX5_nextNumber_8 : decode prog_3_method_2_code 8 = .ok (.goto 10, 3) := by decide +kernel
theorem dX5_nextNumber_11 : decode prog_3_method_2_code 11 = .ok (.aload_n 0, 1) := by decide +kernel
theorem dX5_nextNumber_12 : decode prog_3_method_2_code 12 = .ok (.getfield 21, 3) := by decide +kernel
theorem dX5_nextNumber_15 : decode prog_3_method_2_code 15 = .ok (.getfield 25, 3) := by decide +kernel
theorem dX5_nextNumber_18 : decode prog_3_method_2_code 18 = .ok (.ireturn, 1) := by decide +kernel
def wpX5_nextNumber (K : KX) (post : Int32 → gS → Prop) (u : gS) (y0 : Nat) : Prop :=
  ∀ r1 : Option Nat, r1 = sQ u 3 y0 → (((r1 = none → (post (-1) u)) ∧ (∀ y2 : Nat, r1 = some y2 → (∀ r3 : Option Nat, r3 = sQ u 3 y0 → (∃ y4 : Nat, r3 = some y4 ∧ y4 ∈ K.2.2.1 ∧ (post (K.2.2.2.1 y4 0) u))))))

set_option maxHeartbeats 8000000 in
set_option maxRecDepth 100000 in
theorem cX5_nextNumber (l : Launch) (dC : Nat → ClassId) (dI : Nat → Nat → Nat) (ad : Nat → Nat) (ca : Nat → ClassId) (K : KX) (sz : Nat) (u : gS) (y0 : Nat) (post : Int32 → gS → Prop) (hy0 : y0 ∈ K.2.2.1) (h : wpX5_nextNumber K post u y0) : Met l ⟨"WorkHall$Job", "nextNumber", "()I"⟩ (gw ⟨"WorkHall$Job", "nextNumber", "()I"⟩ prog_3_method_2_code 1 (some .int)) ({ frames := 1, cells := 0, slots := 0, locals := 40 } : Room) (va_Pc [.ref y0] (gB (dC, dI) vwCl (xT ca) xE (wX ad ca K u) sz)) (va_Qi post (gAt (dC, dI) vwCl (xT ca) (wX ad ca K) (va_A (wX ad ca K u) sz)) (va_A (wX ad ca K u) sz)) 0 0 (va_A (wX ad ca K u) sz) := by
  refine Met.ofW (cc := prog_3_method_2_code) (maxL := 1) (ret := (some .int)) (by decide) rfl ?_
  intro p e s m args below meth c s₁ B hml hv
  obtain ⟨rfl, hsz, hP, hK, hD0, hE⟩ := hv
  have hx := B.exec
  have hb := B.bytes
  have hr := B.returns
  have hts : ∀ w ∈ gW, w.before _ s = true := fun w h9 => atoms_spec (ws := (gw ⟨"WorkHall$Job", "nextNumber", "()I"⟩ prog_3_method_2_code 1 (some .int))) B.pre w (List.mem_cons_of_mem _ h9)
  have hown : s.vm.findClass RX5 = some m.cls := findClass_of_methodNamed B.named
  have hlocks := B.notSynchronized
  subst hsz
  have hD := hD0.self (sz := s.heap.size)
  generalize hAe : va_A (wX ad ca K u) s.heap.size = A at hD hE ⊢
  have hA : ∀ q : Nat, s.heap.size ≤ q → A q := fun q h => by rw [← hAe]; exact Or.inr h
  obtain ⟨H, hHe⟩ : ∃ z : Heap, z = s.heap := ⟨_, rfl⟩
  rw [← hHe]
  have hS : va_S A s.heap H [] := by rw [hHe]; exact va_S.rf
  have hP : va_P (dC, dI) vwCl (wX ad ca K u) H := by rw [hHe]; exact hP
  have hl := lv_entry ([.ref y0]) (n := 1) (Nat.le_of_ble_eq_true rfl)
  rw [lg_entry_eq]
  generalize (lg_sl ([.ref y0]) ++ List.replicate (1 - (lg_sl ([.ref y0])).length) Slot.unset).toArray = ls at hl ⊢
  have hl : lv_has ls 1 [(0, .ref y0)] := hl
  clear hAe
  refine lv_aload_n hx hb dX5_nextNumber_0 rfl (lv_at hl 0 rfl) ?_
  obtain ⟨k9, hk9⟩ := xJ_get hy0
  refine va_get (D := (dC, dI)) (ci := 5) (v := va_rf (sQ u 3 y0)) (C := RX5) (T := TX5) (N := 9) hx hb hts uwX5 hown hK hP k9 hk9 rfl 8 (by decide) (hts _ wd_334) (fun _ h9 => h9) rfl dX5_nextNumber_1 ?_
  refine gq_top (fun r1 er1 => ?_)
  have h := h r1 er1
  rcases r1 with _ | y2
  · have h := h.1 rfl
    refine lv_ifnonnullN hx hb dX5_nextNumber_4 ?_
    refine lv_iconst (v := (-1)) hx hb dX5_nextNumber_7 (by decide) ?_
    refine lv_goto (tgt := 18) hx hb dX5_nextNumber_8 (by decide) ?_
    exact gr_i (w := wX ad ca K) (u := u) hx hb hr hlocks h hP hK hD hS dX5_nextNumber_18
  · have h := h.2 y2 rfl
    refine lv_ifnonnull (tgt := 11) hx hb dX5_nextNumber_4 (by decide) ?_
    refine lv_aload_n hx hb dX5_nextNumber_11 rfl (lv_at hl 0 rfl) ?_
    obtain ⟨k9, hk9⟩ := xJ_get hy0
    refine va_get (D := (dC, dI)) (ci := 5) (v := va_rf (sQ u 3 y0)) (C := RX5) (T := TX5) (N := 9) hx hb hts uwX5 hown hK hP k9 hk9 rfl 8 (by decide) (hts _ wd_334) (fun _ h9 => h9) rfl dX5_nextNumber_12 ?_
    refine gq_top (fun r3 er3 => ?_)
    have h := h r3 er3
    obtain ⟨y4, rfl, hy5, h⟩ := h
    obtain ⟨k9, hk9⟩ := xJ_get hy5
    refine va_get (D := (dC, dI)) (ci := 5) (v := .int (K.2.2.2.1 y4 0)) (C := RX5) (T := TX5) (N := 9) hx hb hts uwX5 hown hK hP k9 hk9 rfl 0 (by decide) (hts _ wd_316) (fun _ h9 => h9) rfl dX5_nextNumber_15 ?_
    exact gr_i (w := wX ad ca K) (u := u) hx hb hr hlocks h hP hK hD hS dX5_nextNumber_18

theorem dX5_succeed_0 : decode prog_3_method_3_code 0 = .ok (.aload_n 0, 1) := by decide +kernel
theorem dX5_succeed_1 : decode prog_3_method_3_code 1 = .ok (.iconst 3, 1) := by decide +kernel
theorem dX5_succeed_2 : decode prog_3_method_3_code 2 = .ok (.putfield 9, 3) := by decide +kernel
theorem dX5_succeed_5 : decode prog_3_method_3_code 5 = .ok (.aload_n 0, 1) := by decide +kernel
theorem dX5_succeed_6 : decode prog_3_method_3_code 6 = .ok (.iload_n 1, 1) := by decide +kernel
theorem dX5_succeed_7 : decode prog_3_method_3_code 7 = .ok (.putfield 15, 3) := by decide +kernel
theorem dX5_succeed_10 : decode prog_3_method_3_code 10 = .ok (.return_, 1) := by decide +kernel
def wpX5_succeed (K : KX) (post : gS → Prop) (u : gS) (y0 : Nat) (p1 : Int32) : Prop :=
  ∀ u1 : gS, u1 = tA u 0 y0 3 → (∀ u2 : gS, u2 = tA u1 1 y0 p1 → (post u2))

set_option maxHeartbeats 8000000 in
set_option maxRecDepth 100000 in
theorem cX5_succeed (l : Launch) (dC : Nat → ClassId) (dI : Nat → Nat → Nat) (ad : Nat → Nat) (ca : Nat → ClassId) (K : KX) (sz : Nat) (u : gS) (y0 : Nat) (p1 : Int32) (post : gS → Prop) (hy0 : y0 ∈ K.2.2.1) (h : wpX5_succeed K post u y0 p1) : Met l ⟨"WorkHall$Job", "succeed", "(I)V"⟩ (gw ⟨"WorkHall$Job", "succeed", "(I)V"⟩ prog_3_method_3_code 2 none) ({ frames := 1, cells := 0, slots := 0, locals := 40 } : Room) (va_Pc [.ref y0, .int p1] (gB (dC, dI) vwCl (xT ca) xE (wX ad ca K u) sz)) (va_Qv post (gAt (dC, dI) vwCl (xT ca) (wX ad ca K) (va_A (wX ad ca K u) sz)) (va_A (wX ad ca K u) sz)) 0 0 (va_A (wX ad ca K u) sz) := by
  refine Met.ofW (cc := prog_3_method_3_code) (maxL := 2) (ret := none) (by decide) rfl ?_
  intro p e s m args below meth c s₁ B hml hv
  obtain ⟨rfl, hsz, hP, hK, hD0, hE⟩ := hv
  have hx := B.exec
  have hb := B.bytes
  have hr := B.returns
  have hts : ∀ w ∈ gW, w.before _ s = true := fun w h9 => atoms_spec (ws := (gw ⟨"WorkHall$Job", "succeed", "(I)V"⟩ prog_3_method_3_code 2 none)) B.pre w (List.mem_cons_of_mem _ h9)
  have hown : s.vm.findClass RX5 = some m.cls := findClass_of_methodNamed B.named
  have hlocks := B.notSynchronized
  subst hsz
  have hD := hD0.self (sz := s.heap.size)
  generalize hAe : va_A (wX ad ca K u) s.heap.size = A at hD hE ⊢
  have hA : ∀ q : Nat, s.heap.size ≤ q → A q := fun q h => by rw [← hAe]; exact Or.inr h
  obtain ⟨H, hHe⟩ : ∃ z : Heap, z = s.heap := ⟨_, rfl⟩
  rw [← hHe]
  have hS : va_S A s.heap H [] := by rw [hHe]; exact va_S.rf
  have hP : va_P (dC, dI) vwCl (wX ad ca K u) H := by rw [hHe]; exact hP
  have hl := lv_entry ([.ref y0, .int p1]) (n := 2) (Nat.le_of_ble_eq_true rfl)
  rw [lg_entry_eq]
  generalize (lg_sl ([.ref y0, .int p1]) ++ List.replicate (2 - (lg_sl ([.ref y0, .int p1])).length) Slot.unset).toArray = ls at hl ⊢
  have hl : lv_has ls 2 [(0, .ref y0), (1, .int p1)] := hl
  clear hAe
  refine lv_aload_n hx hb dX5_succeed_0 rfl (lv_at hl 0 rfl) ?_
  refine lv_iconst (v := 3) hx hb dX5_succeed_1 (by decide) ?_
  obtain ⟨k9, hk9⟩ := xJ_get hy0
  have e9 := xJ_state (v := 3) hD hy0 hk9
  refine va_put (D := (dC, dI)) (ci := 5) (v := .int 3) (ty := tyX5 5) (C := RX5) (T := TX5) (N := 9) hx hb hts uwX5 tyX5 tyX5_ok nmX5 hown hK hP hD hS k9 hk9 rfl 5 (by decide) (hts _ wd_325) (fun _ h9 => h9) rfl (tyX5_ok 5 (by decide)) rfl rfl (Nat.le_of_ble_eq_true rfl) dX5_succeed_2 (fun H locs hP hD hS => ?_)
  obtain ⟨u1, eu1⟩ : ∃ z : gS, z = tA u 0 y0 3 := ⟨_, rfl⟩
  have hP : va_P (dC, dI) vwCl (wX ad ca K u1) H := by rw [eu1, ← e9]; exact hP
  have hD : va_D A (wX ad ca K u1) := by rw [eu1, ← e9]; exact hD
  have h := h u1 eu1
  refine lv_aload_n hx hb dX5_succeed_5 rfl (lv_at hl 0 rfl) ?_
  refine lv_iload_n hx hb dX5_succeed_6 rfl (lv_at hl 1 rfl) ?_
  obtain ⟨k9, hk9⟩ := xJ_get hy0
  have e9 := xJ_result (v := p1) hD hy0 hk9
  refine va_put (D := (dC, dI)) (ci := 5) (v := .int p1) (ty := tyX5 6) (C := RX5) (T := TX5) (N := 9) hx hb hts uwX5 tyX5 tyX5_ok nmX5 hown hK hP hD hS k9 hk9 rfl 6 (by decide) (hts _ wd_330) (fun _ h9 => h9) rfl (tyX5_ok 6 (by decide)) rfl rfl (Nat.le_of_ble_eq_true rfl) dX5_succeed_7 (fun H locs hP hD hS => ?_)
  obtain ⟨u2, eu2⟩ : ∃ z : gS, z = tA u1 1 y0 p1 := ⟨_, rfl⟩
  have hP : va_P (dC, dI) vwCl (wX ad ca K u2) H := by rw [eu2, ← e9]; exact hP
  have hD : va_D A (wX ad ca K u2) := by rw [eu2, ← e9]; exact hD
  have h := h u2 eu2
  exact gr_v (w := wX ad ca K) (u := u2) hx hb hr hlocks h hP hK hD hS dX5_succeed_10

theorem dX5_fail_0 : decode prog_3_method_4_code 0 = .ok (.aload_n 0, 1) := by decide +kernel
theorem dX5_fail_1 : decode prog_3_method_4_code 1 = .ok (.iconst 4, 1) := by decide +kernel
theorem dX5_fail_2 : decode prog_3_method_4_code 2 = .ok (.putfield 9, 3) := by decide +kernel
theorem dX5_fail_5 : decode prog_3_method_4_code 5 = .ok (.aload_n 0, 1) := by decide +kernel
theorem dX5_fail_6 : decode prog_3_method_4_code 6 = .ok (.iload_n 1, 1) := by decide +kernel
theorem dX5_fail_7 : decode prog_3_method_4_code 7 = .ok (.putfield 18, 3) := by decide +kernel
theorem dX5_fail_10 : decode prog_3_method_4_code 10 = .ok (.return_, 1) := by decide +kernel
def wpX5_fail (K : KX) (post : gS → Prop) (u : gS) (y0 : Nat) (p1 : Int32) : Prop :=
  ∀ u1 : gS, u1 = tA u 0 y0 4 → (∀ u2 : gS, u2 = tA u1 2 y0 p1 → (post u2))

set_option maxHeartbeats 8000000 in
set_option maxRecDepth 100000 in
theorem cX5_fail (l : Launch) (dC : Nat → ClassId) (dI : Nat → Nat → Nat) (ad : Nat → Nat) (ca : Nat → ClassId) (K : KX) (sz : Nat) (u : gS) (y0 : Nat) (p1 : Int32) (post : gS → Prop) (hy0 : y0 ∈ K.2.2.1) (h : wpX5_fail K post u y0 p1) : Met l ⟨"WorkHall$Job", "fail", "(I)V"⟩ (gw ⟨"WorkHall$Job", "fail", "(I)V"⟩ prog_3_method_4_code 2 none) ({ frames := 1, cells := 0, slots := 0, locals := 40 } : Room) (va_Pc [.ref y0, .int p1] (gB (dC, dI) vwCl (xT ca) xE (wX ad ca K u) sz)) (va_Qv post (gAt (dC, dI) vwCl (xT ca) (wX ad ca K) (va_A (wX ad ca K u) sz)) (va_A (wX ad ca K u) sz)) 0 0 (va_A (wX ad ca K u) sz) := by
  refine Met.ofW (cc := prog_3_method_4_code) (maxL := 2) (ret := none) (by decide) rfl ?_
  intro p e s m args below meth c s₁ B hml hv
  obtain ⟨rfl, hsz, hP, hK, hD0, hE⟩ := hv
  have hx := B.exec
  have hb := B.bytes
  have hr := B.returns
  have hts : ∀ w ∈ gW, w.before _ s = true := fun w h9 => atoms_spec (ws := (gw ⟨"WorkHall$Job", "fail", "(I)V"⟩ prog_3_method_4_code 2 none)) B.pre w (List.mem_cons_of_mem _ h9)
  have hown : s.vm.findClass RX5 = some m.cls := findClass_of_methodNamed B.named
  have hlocks := B.notSynchronized
  subst hsz
  have hD := hD0.self (sz := s.heap.size)
  generalize hAe : va_A (wX ad ca K u) s.heap.size = A at hD hE ⊢
  have hA : ∀ q : Nat, s.heap.size ≤ q → A q := fun q h => by rw [← hAe]; exact Or.inr h
  obtain ⟨H, hHe⟩ : ∃ z : Heap, z = s.heap := ⟨_, rfl⟩
  rw [← hHe]
  have hS : va_S A s.heap H [] := by rw [hHe]; exact va_S.rf
  have hP : va_P (dC, dI) vwCl (wX ad ca K u) H := by rw [hHe]; exact hP
  have hl := lv_entry ([.ref y0, .int p1]) (n := 2) (Nat.le_of_ble_eq_true rfl)
  rw [lg_entry_eq]
  generalize (lg_sl ([.ref y0, .int p1]) ++ List.replicate (2 - (lg_sl ([.ref y0, .int p1])).length) Slot.unset).toArray = ls at hl ⊢
  have hl : lv_has ls 2 [(0, .ref y0), (1, .int p1)] := hl
  clear hAe
  refine lv_aload_n hx hb dX5_fail_0 rfl (lv_at hl 0 rfl) ?_
  refine lv_iconst (v := 4) hx hb dX5_fail_1 (by decide) ?_
  obtain ⟨k9, hk9⟩ := xJ_get hy0
  have e9 := xJ_state (v := 4) hD hy0 hk9
  refine va_put (D := (dC, dI)) (ci := 5) (v := .int 4) (ty := tyX5 5) (C := RX5) (T := TX5) (N := 9) hx hb hts uwX5 tyX5 tyX5_ok nmX5 hown hK hP hD hS k9 hk9 rfl 5 (by decide) (hts _ wd_325) (fun _ h9 => h9) rfl (tyX5_ok 5 (by decide)) rfl rfl (Nat.le_of_ble_eq_true rfl) dX5_fail_2 (fun H locs hP hD hS => ?_)
  obtain ⟨u1, eu1⟩ : ∃ z : gS, z = tA u 0 y0 4 := ⟨_, rfl⟩
  have hP : va_P (dC, dI) vwCl (wX ad ca K u1) H := by rw [eu1, ← e9]; exact hP
  have hD : va_D A (wX ad ca K u1) := by rw [eu1, ← e9]; exact hD
  have h := h u1 eu1
  refine lv_aload_n hx hb dX5_fail_5 rfl (lv_at hl 0 rfl) ?_
  refine lv_iload_n hx hb dX5_fail_6 rfl (lv_at hl 1 rfl) ?_
  obtain ⟨k9, hk9⟩ := xJ_get hy0
  have e9 := xJ_thrown (v := p1) hD hy0 hk9
  refine va_put (D := (dC, dI)) (ci := 5) (v := .int p1) (ty := tyX5 7) (C := RX5) (T := TX5) (N := 9) hx hb hts uwX5 tyX5 tyX5_ok nmX5 hown hK hP hD hS k9 hk9 rfl 7 (by decide) (hts _ wd_332) (fun _ h9 => h9) rfl (tyX5_ok 7 (by decide)) rfl rfl (Nat.le_of_ble_eq_true rfl) dX5_fail_7 (fun H locs hP hD hS => ?_)
  obtain ⟨u2, eu2⟩ : ∃ z : gS, z = tA u1 2 y0 p1 := ⟨_, rfl⟩
  have hP : va_P (dC, dI) vwCl (wX ad ca K u2) H := by rw [eu2, ← e9]; exact hP
  have hD : va_D A (wX ad ca K u2) := by rw [eu2, ← e9]; exact hD
  have h := h u2 eu2
  exact gr_v (w := wX ad ca K) (u := u2) hx hb hr hlocks h hP hK hD hS dX5_fail_10

theorem dX5_divide_0 : decode prog_3_method_5_code 0 = .ok (.aload_n 0, 1) := by decide +kernel
theorem dX5_divide_1 : decode prog_3_method_5_code 1 = .ok (.getfield 34, 3) := by decide +kernel
theorem dX5_divide_4 : decode prog_3_method_5_code 4 = .ok (.ifCond .ne 11, 3) := by decide +kernel
theorem dX5_divide_7 : decode prog_3_method_5_code 7 = .ok (.aload_n 0, 1) := by decide +kernel
theorem dX5_divide_8 : decode prog_3_method_5_code 8 = .ok (.iconst 1, 1) := by decide +kernel
theorem dX5_divide_9 : decode prog_3_method_5_code 9 = .ok (.invokevirtual 40, 3) := by decide +kernel
theorem dX5_divide_12 : decode prog_3_method_5_code 12 = .ok (.goto 16, 3) := by decide +kernel
theorem dX5_divide_15 : decode prog_3_method_5_code 15 = .ok (.aload_n 0, 1) := by decide +kernel
theorem dX5_divide_16 : decode prog_3_method_5_code 16 = .ok (.aload_n 0, 1) := by decide +kernel
theorem dX5_divide_17 : decode prog_3_method_5_code 17 = .ok (.getfield 31, 3) := by decide +kernel
theorem dX5_divide_20 : decode prog_3_method_5_code 20 = .ok (.aload_n 0, 1) := by decide +kernel
theorem dX5_divide_21 : decode prog_3_method_5_code 21 = .ok (.getfield 34, 3) := by decide +kernel
theorem dX5_divide_24 : decode prog_3_method_5_code 24 = .ok (.idiv, 1) := by decide +kernel
theorem dX5_divide_25 : decode prog_3_method_5_code 25 = .ok (.invokevirtual 44, 3) := by decide +kernel
theorem dX5_divide_28 : decode prog_3_method_5_code 28 = .ok (.return_, 1) := by decide +kernel
def wpX5_divide (K : KX) (post : gS → Prop) (u : gS) (y0 : Nat) : Prop :=
  ((¬ (K.2.2.2.1 y0 3) = 0 → ((¬ (K.2.2.2.1 y0 3) = 0) ∧ (wpX5_succeed K (fun (u3 : gS) => post u3) u y0 ((K.2.2.2.1 y0 2) / (K.2.2.2.1 y0 3))))) ∧ ((K.2.2.2.1 y0 3) = 0 → (wpX5_fail K (fun (u5 : gS) => post u5) u y0 1)))

set_option maxHeartbeats 8000000 in
set_option maxRecDepth 100000 in
theorem cX5_divide (l : Launch) (dC : Nat → ClassId) (dI : Nat → Nat → Nat) (ad : Nat → Nat) (ca : Nat → ClassId) (K : KX) (sz : Nat) (u : gS) (y0 : Nat) (post : gS → Prop) (hy0 : y0 ∈ K.2.2.1) (h : wpX5_divide K post u y0) : Met l ⟨"WorkHall$Job", "divide", "()V"⟩ (gw ⟨"WorkHall$Job", "divide", "()V"⟩ prog_3_method_5_code 1 none) ({ frames := 2, cells := 0, slots := 0, locals := 80 } : Room) (va_Pc [.ref y0] (gB (dC, dI) vwCl (xT ca) xE (wX ad ca K u) sz)) (va_Qv post (gAt (dC, dI) vwCl (xT ca) (wX ad ca K) (va_A (wX ad ca K u) sz)) (va_A (wX ad ca K u) sz)) 0 0 (va_A (wX ad ca K u) sz) := by
  refine Met.ofW (cc := prog_3_method_5_code) (maxL := 1) (ret := none) (by decide) rfl ?_
  intro p e s m args below meth c s₁ B hml hv
  obtain ⟨rfl, hsz, hP, hK, hD0, hE⟩ := hv
  have hx := B.exec
  have hb := B.bytes
  have hr := B.returns
  have hts : ∀ w ∈ gW, w.before _ s = true := fun w h9 => atoms_spec (ws := (gw ⟨"WorkHall$Job", "divide", "()V"⟩ prog_3_method_5_code 1 none)) B.pre w (List.mem_cons_of_mem _ h9)
  have hown : s.vm.findClass RX5 = some m.cls := findClass_of_methodNamed B.named
  have hlocks := B.notSynchronized
  subst hsz
  have hD := hD0.self (sz := s.heap.size)
  generalize hAe : va_A (wX ad ca K u) s.heap.size = A at hD hE ⊢
  have hA : ∀ q : Nat, s.heap.size ≤ q → A q := fun q h => by rw [← hAe]; exact Or.inr h
  obtain ⟨H, hHe⟩ : ∃ z : Heap, z = s.heap := ⟨_, rfl⟩
  rw [← hHe]
  have hS : va_S A s.heap H [] := by rw [hHe]; exact va_S.rf
  have hP : va_P (dC, dI) vwCl (wX ad ca K u) H := by rw [hHe]; exact hP
  have hl := lv_entry ([.ref y0]) (n := 1) (Nat.le_of_ble_eq_true rfl)
  rw [lg_entry_eq]
  generalize (lg_sl ([.ref y0]) ++ List.replicate (1 - (lg_sl ([.ref y0])).length) Slot.unset).toArray = ls at hl ⊢
  have hl : lv_has ls 1 [(0, .ref y0)] := hl
  clear hAe
  refine lv_aload_n hx hb dX5_divide_0 rfl (lv_at hl 0 rfl) ?_
  obtain ⟨k9, hk9⟩ := xJ_get hy0
  refine va_get (D := (dC, dI)) (ci := 5) (v := .int (K.2.2.2.1 y0 3)) (C := RX5) (T := TX5) (N := 9) hx hb hts uwX5 hown hK hP k9 hk9 rfl 3 (by decide) (hts _ wd_321) (fun _ h9 => h9) rfl dX5_divide_1 ?_
  refine lv_if_ne (tgt := 15) hx hb dX5_divide_4 (by decide) (fun c1 => ?_) (fun c1 => ?_)
  · have h := h.1 c1
    refine lv_aload_n hx hb dX5_divide_15 rfl (lv_at hl 0 rfl) ?_
    refine lv_aload_n hx hb dX5_divide_16 rfl (lv_at hl 0 rfl) ?_
    obtain ⟨k9, hk9⟩ := xJ_get hy0
    refine va_get (D := (dC, dI)) (ci := 5) (v := .int (K.2.2.2.1 y0 2)) (C := RX5) (T := TX5) (N := 9) hx hb hts uwX5 hown hK hP k9 hk9 rfl 2 (by decide) (hts _ wd_319) (fun _ h9 => h9) rfl dX5_divide_17 ?_
    refine lv_aload_n hx hb dX5_divide_20 rfl (lv_at hl 0 rfl) ?_
    obtain ⟨k9, hk9⟩ := xJ_get hy0
    refine va_get (D := (dC, dI)) (ci := 5) (v := .int (K.2.2.2.1 y0 3)) (C := RX5) (T := TX5) (N := 9) hx hb hts uwX5 hown hK hP k9 hk9 rfl 3 (by decide) (hts _ wd_321) (fun _ h9 => h9) rfl dX5_divide_21 ?_
    refine lv_idiv hx hb dX5_divide_24 h.1 ?_
    have h := h.2
    refine gc_v (w := wX ad ca K) (u := u) (va_runV (As := [.int ((K.2.2.2.1 y0 2) / (K.2.2.2.1 y0 3))]) (rest := []) ⟨hx, hb, hml, hown, hts⟩ (cX5_succeed l dC dI ad ca K H.size u y0 ((K.2.2.2.1 y0 2) / (K.2.2.2.1 y0 3)) _ hy0 h) (cwV 1 hts (gG_V wd_443 wd_432 wd_433 wd_58 wd_434) rfl rfl rfl (by decide +kernel) ⟨Nat.le_of_ble_eq_true rfl, Nat.le_of_ble_eq_true rfl⟩) ⟨gB_blind xE_ok, (by obtain ⟨k9, hk9⟩ := xJ_get hy0; exact va_recv hK hP (ci := 5) (q0 := k9) rfl hk9), gB_pre xE_ok hP hK hD hE hS hA⟩ rfl rfl hl.1 rfl (lv_room (Nat.le_of_ble_eq_true rfl)) dX5_divide_25 ⟨Nat.le_of_ble_eq_true rfl, Nat.le_of_ble_eq_true rfl⟩) hD hS hA (fun u3 H locs h hP hD hS => ?_)
    exact gr_v (w := wX ad ca K) (u := u3) hx hb hr hlocks h hP hK hD hS dX5_divide_28
  · have h := h.2 c1
    refine lv_aload_n hx hb dX5_divide_7 rfl (lv_at hl 0 rfl) ?_
    refine lv_iconst (v := 1) hx hb dX5_divide_8 (by decide) ?_
    refine gc_v (w := wX ad ca K) (u := u) (va_runV (As := [.int 1]) (rest := []) ⟨hx, hb, hml, hown, hts⟩ (cX5_fail l dC dI ad ca K H.size u y0 1 _ hy0 h) (cwV 1 hts (gG_V wd_439 wd_440 wd_441 wd_58 wd_442) rfl rfl rfl (by decide +kernel) ⟨Nat.le_of_ble_eq_true rfl, Nat.le_of_ble_eq_true rfl⟩) ⟨gB_blind xE_ok, (by obtain ⟨k9, hk9⟩ := xJ_get hy0; exact va_recv hK hP (ci := 5) (q0 := k9) rfl hk9), gB_pre xE_ok hP hK hD hE hS hA⟩ rfl rfl hl.1 rfl (lv_room (Nat.le_of_ble_eq_true rfl)) dX5_divide_9 ⟨Nat.le_of_ble_eq_true rfl, Nat.le_of_ble_eq_true rfl⟩) hD hS hA (fun u5 H locs h hP hD hS => ?_)
    refine lv_goto (tgt := 28) hx hb dX5_divide_12 (by decide) ?_
    exact gr_v (w := wX ad ca K) (u := u5) hx hb hr hlocks h hP hK hD hS dX5_divide_28

theorem dX5_pick_0 : decode prog_3_method_6_code 0 = .ok (.aload_n 0, 1) := by decide +kernel
theorem dX5_pick_1 : decode prog_3_method_6_code 1 = .ok (.getfield 31, 3) := by decide +kernel
theorem dX5_pick_4 : decode prog_3_method_6_code 4 = .ok (.ifCond .lt 29, 3) := by decide +kernel
theorem dX5_pick_7 : decode prog_3_method_6_code 7 = .ok (.aload_n 0, 1) := by decide +kernel
theorem dX5_pick_8 : decode prog_3_method_6_code 8 = .ok (.getfield 31, 3) := by decide +kernel
theorem dX5_pick_11 : decode prog_3_method_6_code 11 = .ok (.getstatic 47, 3) := by decide +kernel
theorem dX5_pick_14 : decode prog_3_method_6_code 14 = .ok (.arraylength, 1) := by decide +kernel
theorem dX5_pick_15 : decode prog_3_method_6_code 15 = .ok (.if_icmp .ge 18, 3) := by decide +kernel
theorem dX5_pick_18 : decode prog_3_method_6_code 18 = .ok (.aload_n 0, 1) := by decide +kernel
theorem dX5_pick_19 : decode prog_3_method_6_code 19 = .ok (.getstatic 47, 3) := by decide +kernel
theorem dX5_pick_22 : decode prog_3_method_6_code 22 = .ok (.aload_n 0, 1) := by decide +kernel
theorem dX5_pick_23 : decode prog_3_method_6_code 23 = .ok (.getfield 31, 3) := by decide +kernel
theorem dX5_pick_26 : decode prog_3_method_6_code 26 = .ok (.iaload, 1) := by decide +kernel
theorem dX5_pick_27 : decode prog_3_method_6_code 27 = .ok (.invokevirtual 44, 3) := by decide +kernel
theorem dX5_pick_30 : decode prog_3_method_6_code 30 = .ok (.goto 30, 3) := by decide +kernel
theorem dX5_pick_33 : decode prog_3_method_6_code 33 = .ok (.aload_n 0, 1) := by decide +kernel
theorem dX5_pick_34 : decode prog_3_method_6_code 34 = .ok (.getfield 31, 3) := by decide +kernel
theorem dX5_pick_37 : decode prog_3_method_6_code 37 = .ok (.getstatic 47, 3) := by decide +kernel
theorem dX5_pick_40 : decode prog_3_method_6_code 40 = .ok (.arraylength, 1) := by decide +kernel
theorem dX5_pick_41 : decode prog_3_method_6_code 41 = .ok (.if_icmp .ne 14, 3) := by decide +kernel
theorem dX5_pick_44 : decode prog_3_method_6_code 44 = .ok (.aload_n 0, 1) := by decide +kernel
theorem dX5_pick_45 : decode prog_3_method_6_code 45 = .ok (.aload_n 0, 1) := by decide +kernel
theorem dX5_pick_46 : decode prog_3_method_6_code 46 = .ok (.getfield 34, 3) := by decide +kernel
theorem dX5_pick_49 : decode prog_3_method_6_code 49 = .ok (.invokevirtual 44, 3) := by decide +kernel
theorem dX5_pick_52 : decode prog_3_method_6_code 52 = .ok (.goto 8, 3) := by decide +kernel
theorem dX5_pick_55 : decode prog_3_method_6_code 55 = .ok (.aload_n 0, 1) := by decide +kernel
theorem dX5_pick_56 : decode prog_3_method_6_code 56 = .ok (.iconst 2, 1) := by decide +kernel
theorem dX5_pick_57 : decode prog_3_method_6_code 57 = .ok (.invokevirtual 40, 3) := by decide +kernel
theorem dX5_pick_60 : decode prog_3_method_6_code 60 = .ok (.return_, 1) := by decide +kernel
def wpX5_pick (K : KX) (post : gS → Prop) (u : gS) (y0 : Nat) : Prop :=
  (((K.2.2.2.1 y0 2) < 0 → (((¬ (K.2.2.2.1 y0 2) = 4 → (wpX5_fail K (fun (u4 : gS) => post u4) u y0 2)) ∧ ((K.2.2.2.1 y0 2) = 4 → (wpX5_succeed K (fun (u6 : gS) => post u6) u y0 (K.2.2.2.1 y0 3)))))) ∧ (¬ (K.2.2.2.1 y0 2) < 0 → (((4 ≤ (K.2.2.2.1 y0 2) → (((¬ (K.2.2.2.1 y0 2) = 4 → (wpX5_fail K (fun (u10 : gS) => post u10) u y0 2)) ∧ ((K.2.2.2.1 y0 2) = 4 → (wpX5_succeed K (fun (u12 : gS) => post u12) u y0 (K.2.2.2.1 y0 3)))))) ∧ (¬ 4 ≤ (K.2.2.2.1 y0 2) → (vp_in (K.2.2.2.1 y0 2) 4 ∧ (wpX5_succeed K (fun (u14 : gS) => post u14) u y0 (xPicks (K.2.2.2.1 y0 2).toNatClampNeg))))))))

set_option maxHeartbeats 8000000 in
set_option maxRecDepth 100000 in
theorem cX5_pick (l : Launch) (dC : Nat → ClassId) (dI : Nat → Nat → Nat) (ad : Nat → Nat) (ca : Nat → ClassId) (K : KX) (sz : Nat) (u : gS) (y0 : Nat) (post : gS → Prop) (hy0 : y0 ∈ K.2.2.1) (h : wpX5_pick K post u y0) : Met l ⟨"WorkHall$Job", "pick", "()V"⟩ (gw ⟨"WorkHall$Job", "pick", "()V"⟩ prog_3_method_6_code 1 none) ({ frames := 2, cells := 0, slots := 0, locals := 80 } : Room) (va_Pc [.ref y0] (gB (dC, dI) vwCl (xT ca) xE (wX ad ca K u) sz)) (va_Qv post (gAt (dC, dI) vwCl (xT ca) (wX ad ca K) (va_A (wX ad ca K u) sz)) (va_A (wX ad ca K u) sz)) 0 0 (va_A (wX ad ca K u) sz) := by
  refine Met.ofW (cc := prog_3_method_6_code) (maxL := 1) (ret := none) (by decide) rfl ?_
  intro p e s m args below meth c s₁ B hml hv
  obtain ⟨rfl, hsz, hP, hK, hD0, hE⟩ := hv
  have hx := B.exec
  have hb := B.bytes
  have hr := B.returns
  have hts : ∀ w ∈ gW, w.before _ s = true := fun w h9 => atoms_spec (ws := (gw ⟨"WorkHall$Job", "pick", "()V"⟩ prog_3_method_6_code 1 none)) B.pre w (List.mem_cons_of_mem _ h9)
  have hown : s.vm.findClass RX5 = some m.cls := findClass_of_methodNamed B.named
  have hlocks := B.notSynchronized
  subst hsz
  have hD := hD0.self (sz := s.heap.size)
  generalize hAe : va_A (wX ad ca K u) s.heap.size = A at hD hE ⊢
  have hA : ∀ q : Nat, s.heap.size ≤ q → A q := fun q h => by rw [← hAe]; exact Or.inr h
  obtain ⟨H, hHe⟩ : ∃ z : Heap, z = s.heap := ⟨_, rfl⟩
  rw [← hHe]
  have hS : va_S A s.heap H [] := by rw [hHe]; exact va_S.rf
  have hP : va_P (dC, dI) vwCl (wX ad ca K u) H := by rw [hHe]; exact hP
  have hl := lv_entry ([.ref y0]) (n := 1) (Nat.le_of_ble_eq_true rfl)
  rw [lg_entry_eq]
  generalize (lg_sl ([.ref y0]) ++ List.replicate (1 - (lg_sl ([.ref y0])).length) Slot.unset).toArray = ls at hl ⊢
  have hl : lv_has ls 1 [(0, .ref y0)] := hl
  clear hAe
  refine lv_aload_n hx hb dX5_pick_0 rfl (lv_at hl 0 rfl) ?_
  obtain ⟨k9, hk9⟩ := xJ_get hy0
  refine va_get (D := (dC, dI)) (ci := 5) (v := .int (K.2.2.2.1 y0 2)) (C := RX5) (T := TX5) (N := 9) hx hb hts uwX5 hown hK hP k9 hk9 rfl 2 (by decide) (hts _ wd_319) (fun _ h9 => h9) rfl dX5_pick_1 ?_
  refine lv_if_lt (tgt := 33) hx hb dX5_pick_4 (by decide) (fun c1 => ?_) (fun c1 => ?_)
  · have h := h.1 c1
    refine lv_aload_n hx hb dX5_pick_33 rfl (lv_at hl 0 rfl) ?_
    obtain ⟨k9, hk9⟩ := xJ_get hy0
    refine va_get (D := (dC, dI)) (ci := 5) (v := .int (K.2.2.2.1 y0 2)) (C := RX5) (T := TX5) (N := 9) hx hb hts uwX5 hown hK hP k9 hk9 rfl 2 (by decide) (hts _ wd_319) (fun _ h9 => h9) rfl dX5_pick_34 ?_
    obtain ⟨t9, hZ9, hT9⟩ := xE_pick hE; refine va_getsN hx hb hZ9 hS hown (xE_nest hE) (fun _ h9 => h9) dX5_pick_37 ?_
    refine va_tlen (v := 4) hx hb hT9 hS rfl dX5_pick_40 ?_
    refine lv_icmp_ne (tgt := 55) hx hb dX5_pick_41 (by decide) (fun c2 => ?_) (fun c2 => ?_)
    · have h := h.1 c2
      refine lv_aload_n hx hb dX5_pick_55 rfl (lv_at hl 0 rfl) ?_
      refine lv_iconst (v := 2) hx hb dX5_pick_56 (by decide) ?_
      refine gc_v (w := wX ad ca K) (u := u) (va_runV (As := [.int 2]) (rest := []) ⟨hx, hb, hml, hown, hts⟩ (cX5_fail l dC dI ad ca K H.size u y0 2 _ hy0 h) (cwV 1 hts (gG_V wd_439 wd_440 wd_441 wd_58 wd_442) rfl rfl rfl (by decide +kernel) ⟨Nat.le_of_ble_eq_true rfl, Nat.le_of_ble_eq_true rfl⟩) ⟨gB_blind xE_ok, (by obtain ⟨k9, hk9⟩ := xJ_get hy0; exact va_recv hK hP (ci := 5) (q0 := k9) rfl hk9), gB_pre xE_ok hP hK hD hE hS hA⟩ rfl rfl hl.1 rfl (lv_room (Nat.le_of_ble_eq_true rfl)) dX5_pick_57 ⟨Nat.le_of_ble_eq_true rfl, Nat.le_of_ble_eq_true rfl⟩) hD hS hA (fun u4 H locs h hP hD hS => ?_)
      exact gr_v (w := wX ad ca K) (u := u4) hx hb hr hlocks h hP hK hD hS dX5_pick_60
    · have h := h.2 c2
      refine lv_aload_n hx hb dX5_pick_44 rfl (lv_at hl 0 rfl) ?_
      refine lv_aload_n hx hb dX5_pick_45 rfl (lv_at hl 0 rfl) ?_
      obtain ⟨k9, hk9⟩ := xJ_get hy0
      refine va_get (D := (dC, dI)) (ci := 5) (v := .int (K.2.2.2.1 y0 3)) (C := RX5) (T := TX5) (N := 9) hx hb hts uwX5 hown hK hP k9 hk9 rfl 3 (by decide) (hts _ wd_321) (fun _ h9 => h9) rfl dX5_pick_46 ?_
      refine gc_v (w := wX ad ca K) (u := u) (va_runV (As := [.int (K.2.2.2.1 y0 3)]) (rest := []) ⟨hx, hb, hml, hown, hts⟩ (cX5_succeed l dC dI ad ca K H.size u y0 (K.2.2.2.1 y0 3) _ hy0 h) (cwV 1 hts (gG_V wd_443 wd_432 wd_433 wd_58 wd_434) rfl rfl rfl (by decide +kernel) ⟨Nat.le_of_ble_eq_true rfl, Nat.le_of_ble_eq_true rfl⟩) ⟨gB_blind xE_ok, (by obtain ⟨k9, hk9⟩ := xJ_get hy0; exact va_recv hK hP (ci := 5) (q0 := k9) rfl hk9), gB_pre xE_ok hP hK hD hE hS hA⟩ rfl rfl hl.1 rfl (lv_room (Nat.le_of_ble_eq_true rfl)) dX5_pick_49 ⟨Nat.le_of_ble_eq_true rfl, Nat.le_of_ble_eq_true rfl⟩) hD hS hA (fun u6 H locs h hP hD hS => ?_)
      refine lv_goto (tgt := 60) hx hb dX5_pick_52 (by decide) ?_
      exact gr_v (w := wX ad ca K) (u := u6) hx hb hr hlocks h hP hK hD hS dX5_pick_60
  · have h := h.2 c1
    refine lv_aload_n hx hb dX5_pick_7 rfl (lv_at hl 0 rfl) ?_
    obtain ⟨k9, hk9⟩ := xJ_get hy0
    refine va_get (D := (dC, dI)) (ci := 5) (v := .int (K.2.2.2.1 y0 2)) (C := RX5) (T := TX5) (N := 9) hx hb hts uwX5 hown hK hP k9 hk9 rfl 2 (by decide) (hts _ wd_319) (fun _ h9 => h9) rfl dX5_pick_8 ?_
    obtain ⟨t9, hZ9, hT9⟩ := xE_pick hE; refine va_getsN hx hb hZ9 hS hown (xE_nest hE) (fun _ h9 => h9) dX5_pick_11 ?_
    refine va_tlen (v := 4) hx hb hT9 hS rfl dX5_pick_14 ?_
    refine lv_icmp_ge (tgt := 33) hx hb dX5_pick_15 (by decide) (fun c7 => ?_) (fun c7 => ?_)
    · have h := h.1 c7
      refine lv_aload_n hx hb dX5_pick_33 rfl (lv_at hl 0 rfl) ?_
      obtain ⟨k9, hk9⟩ := xJ_get hy0
      refine va_get (D := (dC, dI)) (ci := 5) (v := .int (K.2.2.2.1 y0 2)) (C := RX5) (T := TX5) (N := 9) hx hb hts uwX5 hown hK hP k9 hk9 rfl 2 (by decide) (hts _ wd_319) (fun _ h9 => h9) rfl dX5_pick_34 ?_
      obtain ⟨t9, hZ9, hT9⟩ := xE_pick hE; refine va_getsN hx hb hZ9 hS hown (xE_nest hE) (fun _ h9 => h9) dX5_pick_37 ?_
      refine va_tlen (v := 4) hx hb hT9 hS rfl dX5_pick_40 ?_
      refine lv_icmp_ne (tgt := 55) hx hb dX5_pick_41 (by decide) (fun c8 => ?_) (fun c8 => ?_)
      · have h := h.1 c8
        refine lv_aload_n hx hb dX5_pick_55 rfl (lv_at hl 0 rfl) ?_
        refine lv_iconst (v := 2) hx hb dX5_pick_56 (by decide) ?_
        refine gc_v (w := wX ad ca K) (u := u) (va_runV (As := [.int 2]) (rest := []) ⟨hx, hb, hml, hown, hts⟩ (cX5_fail l dC dI ad ca K H.size u y0 2 _ hy0 h) (cwV 1 hts (gG_V wd_439 wd_440 wd_441 wd_58 wd_442) rfl rfl rfl (by decide +kernel) ⟨Nat.le_of_ble_eq_true rfl, Nat.le_of_ble_eq_true rfl⟩) ⟨gB_blind xE_ok, (by obtain ⟨k9, hk9⟩ := xJ_get hy0; exact va_recv hK hP (ci := 5) (q0 := k9) rfl hk9), gB_pre xE_ok hP hK hD hE hS hA⟩ rfl rfl hl.1 rfl (lv_room (Nat.le_of_ble_eq_true rfl)) dX5_pick_57 ⟨Nat.le_of_ble_eq_true rfl, Nat.le_of_ble_eq_true rfl⟩) hD hS hA (fun u10 H locs h hP hD hS => ?_)
        exact gr_v (w := wX ad ca K) (u := u10) hx hb hr hlocks h hP hK hD hS dX5_pick_60
      · have h := h.2 c8
        refine lv_aload_n hx hb dX5_pick_44 rfl (lv_at hl 0 rfl) ?_
        refine lv_aload_n hx hb dX5_pick_45 rfl (lv_at hl 0 rfl) ?_
        obtain ⟨k9, hk9⟩ := xJ_get hy0
        refine va_get (D := (dC, dI)) (ci := 5) (v := .int (K.2.2.2.1 y0 3)) (C := RX5) (T := TX5) (N := 9) hx hb hts uwX5 hown hK hP k9 hk9 rfl 3 (by decide) (hts _ wd_321) (fun _ h9 => h9) rfl dX5_pick_46 ?_
        refine gc_v (w := wX ad ca K) (u := u) (va_runV (As := [.int (K.2.2.2.1 y0 3)]) (rest := []) ⟨hx, hb, hml, hown, hts⟩ (cX5_succeed l dC dI ad ca K H.size u y0 (K.2.2.2.1 y0 3) _ hy0 h) (cwV 1 hts (gG_V wd_443 wd_432 wd_433 wd_58 wd_434) rfl rfl rfl (by decide +kernel) ⟨Nat.le_of_ble_eq_true rfl, Nat.le_of_ble_eq_true rfl⟩) ⟨gB_blind xE_ok, (by obtain ⟨k9, hk9⟩ := xJ_get hy0; exact va_recv hK hP (ci := 5) (q0 := k9) rfl hk9), gB_pre xE_ok hP hK hD hE hS hA⟩ rfl rfl hl.1 rfl (lv_room (Nat.le_of_ble_eq_true rfl)) dX5_pick_49 ⟨Nat.le_of_ble_eq_true rfl, Nat.le_of_ble_eq_true rfl⟩) hD hS hA (fun u12 H locs h hP hD hS => ?_)
        refine lv_goto (tgt := 60) hx hb dX5_pick_52 (by decide) ?_
        exact gr_v (w := wX ad ca K) (u := u12) hx hb hr hlocks h hP hK hD hS dX5_pick_60
    · have h := h.2 c7
      refine lv_aload_n hx hb dX5_pick_18 rfl (lv_at hl 0 rfl) ?_
      obtain ⟨t9, hZ9, hT9⟩ := xE_pick hE; refine va_getsN hx hb hZ9 hS hown (xE_nest hE) (fun _ h9 => h9) dX5_pick_19 ?_
      refine lv_aload_n hx hb dX5_pick_22 rfl (lv_at hl 0 rfl) ?_
      obtain ⟨k9, hk9⟩ := xJ_get hy0
      refine va_get (D := (dC, dI)) (ci := 5) (v := .int (K.2.2.2.1 y0 2)) (C := RX5) (T := TX5) (N := 9) hx hb hts uwX5 hown hK hP k9 hk9 rfl 2 (by decide) (hts _ wd_319) (fun _ h9 => h9) rfl dX5_pick_23 ?_
      refine va_ti hx hb hT9 hS h.1 rfl dX5_pick_26 ?_
      have h := h.2
      refine gc_v (w := wX ad ca K) (u := u) (va_runV (As := [.int (xPicks (K.2.2.2.1 y0 2).toNatClampNeg)]) (rest := []) ⟨hx, hb, hml, hown, hts⟩ (cX5_succeed l dC dI ad ca K H.size u y0 (xPicks (K.2.2.2.1 y0 2).toNatClampNeg) _ hy0 h) (cwV 1 hts (gG_V wd_443 wd_432 wd_433 wd_58 wd_434) rfl rfl rfl (by decide +kernel) ⟨Nat.le_of_ble_eq_true rfl, Nat.le_of_ble_eq_true rfl⟩) ⟨gB_blind xE_ok, (by obtain ⟨k9, hk9⟩ := xJ_get hy0; exact va_recv hK hP (ci := 5) (q0 := k9) rfl hk9), gB_pre xE_ok hP hK hD hE hS hA⟩ rfl rfl hl.1 rfl (lv_room (Nat.le_of_ble_eq_true rfl)) dX5_pick_27 ⟨Nat.le_of_ble_eq_true rfl, Nat.le_of_ble_eq_true rfl⟩) hD hS hA (fun u14 H locs h hP hD hS => ?_)
      refine lv_goto (tgt := 60) hx hb dX5_pick_30 (by decide) ?_
      exact gr_v (w := wX ad ca K) (u := u14) hx hb hr hlocks h hP hK hD hS dX5_pick_60

theorem dX1_at_0 : decode prog_2_method_2_code 0 = .ok (.iload_n 1, 1) := by decide +kernel
theorem dX1_at_1 : decode prog_2_method_2_code 1 = .ok (.ifCond .lt 20, 3) := by decide +kernel
theorem dX1_at_4 : decode prog_2_method_2_code 4 = .ok (.iload_n 1, 1) := by decide +kernel
theorem dX1_at_5 : decode prog_2_method_2_code 5 = .ok (.aload_n 0, 1) := by decide +kernel
theorem dX1_at_6 : decode prog_2_method_2_code 6 = .ok (.getfield 17, 3) := by decide +kernel
theorem dX1_at_9 : decode prog_2_method_2_code 9 = .ok (.if_icmp .ge 12, 3) := by decide +kernel
theorem dX1_at_12 : decode prog_2_method_2_code 12 = .ok (.aload_n 0, 1) := by decide +kernel
theorem dX1_at_13 : decode prog_2_method_2_code 13 = .ok (.getfield 11, 3) := by decide +kernel
theorem dX1_at_16 : decode prog_2_method_2_code 16 = .ok (.iload_n 1, 1) := by decide +kernel
theorem dX1_at_17 : decode prog_2_method_2_code 17 = .ok (.aaload, 1) := by decide +kernel
theorem dX1_at_18 : decode prog_2_method_2_code 18 = .ok (.goto 4, 3) := by decide +kernel
theorem dX1_at_21 : decode prog_2_method_2_code 21 = .ok (.aconst_null, 1) := by decide +kernel
theorem dX1_at_22 : decode prog_2_method_2_code 22 = .ok (.areturn, 1) := by decide +kernel
def wpX1_at (K : KX) (post : Option Nat → gS → Prop) (u : gS) (p1 : Int32) : Prop :=
  ((p1 < 0 → (post none u)) ∧ (¬ p1 < 0 → ((((sI u 2) ≤ p1 → (post none u)) ∧ (¬ (sI u 2) ≤ p1 → (vp_in p1 5 ∧ (∀ r3 : Option Nat, r3 = sQ u 0 p1.toNatClampNeg → (post r3 u))))))))

set_option maxHeartbeats 8000000 in
set_option maxRecDepth 100000 in
theorem cX1_at (l : Launch) (dC : Nat → ClassId) (dI : Nat → Nat → Nat) (ad : Nat → Nat) (ca : Nat → ClassId) (K : KX) (sz : Nat) (u : gS) (p1 : Int32) (post : Option Nat → gS → Prop)  (h : wpX1_at K post u p1) : Met l ⟨"WorkHall$Crew", "at", "(I)LWorkHall$Worker;"⟩ (gw ⟨"WorkHall$Crew", "at", "(I)LWorkHall$Worker;"⟩ prog_2_method_2_code 2 (some (.object "WorkHall$Worker"))) ({ frames := 1, cells := 0, slots := 0, locals := 40 } : Room) (va_Pc [.ref (ad 2), .int p1] (gB (dC, dI) vwCl (xT ca) xE (wX ad ca K u) sz)) (va_Qq post (gAt (dC, dI) vwCl (xT ca) (wX ad ca K) (va_A (wX ad ca K u) sz)) (va_A (wX ad ca K u) sz)) 0 0 (va_A (wX ad ca K u) sz) := by
  refine Met.ofW (cc := prog_2_method_2_code) (maxL := 2) (ret := (some (.object "WorkHall$Worker"))) (by decide) rfl ?_
  intro p e s m args below meth c s₁ B hml hv
  obtain ⟨rfl, hsz, hP, hK, hD0, hE⟩ := hv
  have hx := B.exec
  have hb := B.bytes
  have hr := B.returns
  have hts : ∀ w ∈ gW, w.before _ s = true := fun w h9 => atoms_spec (ws := (gw ⟨"WorkHall$Crew", "at", "(I)LWorkHall$Worker;"⟩ prog_2_method_2_code 2 (some (.object "WorkHall$Worker")))) B.pre w (List.mem_cons_of_mem _ h9)
  have hown : s.vm.findClass RX1 = some m.cls := findClass_of_methodNamed B.named
  have hlocks := B.notSynchronized
  subst hsz
  have hD := hD0.self (sz := s.heap.size)
  generalize hAe : va_A (wX ad ca K u) s.heap.size = A at hD hE ⊢
  have hA : ∀ q : Nat, s.heap.size ≤ q → A q := fun q h => by rw [← hAe]; exact Or.inr h
  obtain ⟨H, hHe⟩ : ∃ z : Heap, z = s.heap := ⟨_, rfl⟩
  rw [← hHe]
  have hS : va_S A s.heap H [] := by rw [hHe]; exact va_S.rf
  have hP : va_P (dC, dI) vwCl (wX ad ca K u) H := by rw [hHe]; exact hP
  have hl := lv_entry ([.ref (ad 2), .int p1]) (n := 2) (Nat.le_of_ble_eq_true rfl)
  rw [lg_entry_eq]
  generalize (lg_sl ([.ref (ad 2), .int p1]) ++ List.replicate (2 - (lg_sl ([.ref (ad 2), .int p1])).length) Slot.unset).toArray = ls at hl ⊢
  have hl : lv_has ls 2 [(0, .ref (ad 2)), (1, .int p1)] := hl
  clear hAe
  refine lv_iload_n hx hb dX1_at_0 rfl (lv_at hl 1 rfl) ?_
  refine lv_if_lt (tgt := 21) hx hb dX1_at_1 (by decide) (fun c1 => ?_) (fun c1 => ?_)
  · have h := h.1 c1
    refine lv_null hx hb dX1_at_21 ?_
    exact gr_q (w := wX ad ca K) (u := u) (v := none) hx hb hr hlocks h hP hK hD hS dX1_at_22
  · have h := h.2 c1
    refine lv_iload_n hx hb dX1_at_4 rfl (lv_at hl 1 rfl) ?_
    refine lv_aload_n hx hb dX1_at_5 rfl (lv_at hl 0 rfl) ?_
    refine va_get (D := (dC, dI)) (ci := 1) (v := .int (sI u 2)) (C := RX1) (T := TX1) (N := 3) hx hb hts uwX1 hown hK hP 2 rfl rfl 1 (by decide) (hts _ wd_101) (fun _ h9 => h9) rfl dX1_at_6 ?_
    refine lv_icmp_ge (tgt := 21) hx hb dX1_at_9 (by decide) (fun c2 => ?_) (fun c2 => ?_)
    · have h := h.1 c2
      refine lv_null hx hb dX1_at_21 ?_
      exact gr_q (w := wX ad ca K) (u := u) (v := none) hx hb hr hlocks h hP hK hD hS dX1_at_22
    · have h := h.2 c2
      refine lv_aload_n hx hb dX1_at_12 rfl (lv_at hl 0 rfl) ?_
      refine va_get (D := (dC, dI)) (ci := 1) (v := .ref (ad 3)) (C := RX1) (T := TX1) (N := 3) hx hb hts uwX1 hown hK hP 2 rfl rfl 0 (by decide) (hts _ wd_100) (fun _ h9 => h9) rfl dX1_at_13 ?_
      refine lv_iload_n hx hb dX1_at_16 rfl (lv_at hl 1 rfl) ?_
      refine va_aldq (C := RX4) hx hb hK hP 3 1 rfl rfl h.1 dX1_at_17 ?_
      have h := h.2
      refine gq_top (fun r3 er3 => ?_)
      have h := h r3 er3
      refine lv_goto (tgt := 22) hx hb dX1_at_18 (by decide) ?_
      exact gr_q (w := wX ad ca K) (u := u) (v := r3) hx hb hr hlocks h hP hK hD hS dX1_at_22

theorem dX1_placeOf_0 : decode prog_2_method_4_code 0 = .ok (.iconst 0, 1) := by decide +kernel
theorem dX1_placeOf_1 : decode prog_2_method_4_code 1 = .ok (.istore_n 2, 1) := by decide +kernel
theorem dX1_placeOf_2 : decode prog_2_method_4_code 2 = .ok (.iload_n 2, 1) := by decide +kernel
theorem dX1_placeOf_3 : decode prog_2_method_4_code 3 = .ok (.aload_n 0, 1) := by decide +kernel
theorem dX1_placeOf_4 : decode prog_2_method_4_code 4 = .ok (.getfield 17, 3) := by decide +kernel
theorem dX1_placeOf_7 : decode prog_2_method_4_code 7 = .ok (.if_icmp .ge 24, 3) := by decide +kernel
theorem dX1_placeOf_10 : decode prog_2_method_4_code 10 = .ok (.aload_n 0, 1) := by decide +kernel
theorem dX1_placeOf_11 : decode prog_2_method_4_code 11 = .ok (.getfield 11, 3) := by decide +kernel
theorem dX1_placeOf_14 : decode prog_2_method_4_code 14 = .ok (.iload_n 2, 1) := by decide +kernel
theorem dX1_placeOf_15 : decode prog_2_method_4_code 15 = .ok (.aaload, 1) := by decide +kernel
theorem dX1_placeOf_16 : decode prog_2_method_4_code 16 = .ok (.getfield 33, 3) := by decide +kernel
theorem dX1_placeOf_19 : decode prog_2_method_4_code 19 = .ok (.aload_n 1, 1) := by decide +kernel
theorem dX1_placeOf_20 : decode prog_2_method_4_code 20 = .ok (.if_acmp .ne 5, 3) := by decide +kernel
theorem dX1_placeOf_23 : decode prog_2_method_4_code 23 = .ok (.iload_n 2, 1) := by decide +kernel
theorem dX1_placeOf_24 : decode prog_2_method_4_code 24 = .ok (.ireturn, 1) := by decide +kernel
theorem dX1_placeOf_25 : decode prog_2_method_4_code 25 = .ok (.iinc 2 1, 3) := by decide +kernel
theorem dX1_placeOf_28 : decode prog_2_method_4_code 28 = .ok (.goto (-26), 3) := by decide +kernel
theorem dX1_placeOf_31 : decode prog_2_method_4_code 31 = .ok (.iconst (-1), 1) := by decide +kernel
theorem dX1_placeOf_32 : decode prog_2_method_4_code 32 = .ok (.ireturn, 1) := by decide +kernel
def wpX1_placeOf_2 (K : KX) (post : Int32 → gS → Prop) : Nat → Option Nat → Int32 → gS → Prop
  | 0 => fun _ _ _ => False
  | n + 1 => fun l1 l2 u => (((sI u 2) ≤ l2 → (post (-1) u)) ∧ (¬ (sI u 2) ≤ l2 → (vp_in l2 5 ∧ (∀ r2 : Option Nat, r2 = sQ u 0 l2.toNatClampNeg → (∃ y3 : Nat, r2 = some y3 ∧ y3 ∈ K.2.1 ∧ (∀ r5 : Option Nat, r5 = sQ u 4 y3 → (((¬ r5 = l1 → (∀ x7 : Int32, x7 = l2 + 1 → (wpX1_placeOf_2 K post n l1 x7 u))) ∧ (r5 = l1 → (post l2 u))))))))))

def wpX1_placeOf (K : KX) (post : Int32 → gS → Prop) (u : gS) (p1 : Option Nat) : Prop :=
  ∃ n2 : Nat, wpX1_placeOf_2 K post n2 p1 0 u

set_option maxHeartbeats 8000000 in
set_option maxRecDepth 100000 in
theorem wpX1_placeOf_2_ok {p : Program} {l : Launch} {e : Env} {s : State} {m : MethodId} {args : Array Value} {below : List Frame} {meth : Method} {c : Code} {dC : Nat → ClassId} {dI : Nat → Nat → Nat} {ad : Nat → Nat} {ca : Nat → ClassId} {K : KX} {A : Nat → Prop} {post : Int32 → gS → Prop}   (hx : p.tables.exec = Jvm.exec) (hb : c.code = prog_2_method_4_code) (hr : meth.sig.returnType = (some .int)) (hml : c.maxLocals = 3) (hown : s.vm.findClass RX1 = some m.cls) (hts : ∀ w ∈ gW, w.before args s = true) (hlocks : meth.locks = false) (hK : va_K (dC, dI) vwCl (xT ca) s) (hA : ∀ q, s.heap.size ≤ q → A q) (hE : xE A s s.heap) :
    ∀ (n : Nat) (l1 : Option Nat) (l2 : Int32) (u : gS) (H : Heap) (locs : List Loc) (ls : Array Slot), wpX1_placeOf_2 K post n l1 l2 u → va_P (dC, dI) vwCl (wX ad ca K u) H → va_D A (wX ad ca K u) → va_S A s.heap H locs → lv_has ls 3 [(0, .ref (ad 2)), (1, va_rf l1), (2, .int l2)] → W p l e (headSpec (gw ⟨"WorkHall$Crew", "placeOf", "(LWorkHall$Job;)I"⟩ prog_2_method_4_code 3 (some .int)) ({ frames := 1, cells := 0, slots := 0, locals := 40 } : Room)).room s m args below meth c H locs 0 0 (MQ below (va_Qi post (gAt (dC, dI) vwCl (xT ca) (wX ad ca K) (A)) (A)) args s 0 0 A) (F0 m 2 ls []) := by
  intro n
  induction n with
  | zero => exact fun _ _ _ _ _ _ h => h.elim
  | succ n ih =>
    intro l1 l2 u H locs ls h hP hD hS hl
    refine lv_iload_n hx hb dX1_placeOf_2 rfl (lv_at hl 2 rfl) ?_
    refine lv_aload_n hx hb dX1_placeOf_3 rfl (lv_at hl 0 rfl) ?_
    refine va_get (D := (dC, dI)) (ci := 1) (v := .int (sI u 2)) (C := RX1) (T := TX1) (N := 3) hx hb hts uwX1 hown hK hP 2 rfl rfl 1 (by decide) (hts _ wd_101) (fun _ h9 => h9) rfl dX1_placeOf_4 ?_
    refine lv_icmp_ge (tgt := 31) hx hb dX1_placeOf_7 (by decide) (fun c1 => ?_) (fun c1 => ?_)
    · have h := h.1 c1
      refine lv_iconst (v := (-1)) hx hb dX1_placeOf_31 (by decide) ?_
      exact gr_i (w := wX ad ca K) (u := u) hx hb hr hlocks h hP hK hD hS dX1_placeOf_32
    · have h := h.2 c1
      refine lv_aload_n hx hb dX1_placeOf_10 rfl (lv_at hl 0 rfl) ?_
      refine va_get (D := (dC, dI)) (ci := 1) (v := .ref (ad 3)) (C := RX1) (T := TX1) (N := 3) hx hb hts uwX1 hown hK hP 2 rfl rfl 0 (by decide) (hts _ wd_100) (fun _ h9 => h9) rfl dX1_placeOf_11 ?_
      refine lv_iload_n hx hb dX1_placeOf_14 rfl (lv_at hl 2 rfl) ?_
      refine va_aldq (C := RX4) hx hb hK hP 3 1 rfl rfl h.1 dX1_placeOf_15 ?_
      have h := h.2
      refine gq_top (fun r2 er2 => ?_)
      have h := h r2 er2
      obtain ⟨y3, rfl, hy4, h⟩ := h
      obtain ⟨k9, hk9⟩ := xW_get hy4
      refine va_get (D := (dC, dI)) (ci := 4) (v := va_rf (sQ u 4 y3)) (C := RX4) (T := TX4) (N := 3) hx hb hts uwX4 hown hK hP k9 hk9 rfl 0 (by decide) (hts _ wd_87) (fun _ h9 => h9) rfl dX1_placeOf_16 ?_
      refine gq_top (fun r5 er5 => ?_)
      have h := h r5 er5
      refine gq_aload_n (r := l1) hx hb dX1_placeOf_19 rfl (lv_at hl 1 rfl) ?_
      refine lv_acmp_ne (rx := r5) (ry := l1) (tgt := 25) hx hb dX1_placeOf_20 (by decide) (fun c6 => ?_) (fun c6 => ?_)
      · have h := h.1 c6
        obtain ⟨x7, ex7⟩ : ∃ y : Int32, y = l2 + 1 := ⟨_, rfl⟩
        have h := h x7 ex7
        refine lv_iinc (v := x7) (lv' := [(2, .int x7), (0, .ref (ad 2)), (1, va_rf l1)]) hx hb dX1_placeOf_25 hl (k := 2) rfl (by rw [ex7]; rfl) (by decide) (by cases l1 <;> rfl) (fun ls hl => ?_)
        refine lv_goto (tgt := 2) hx hb dX1_placeOf_28 (by decide) ?_
        exact ih l1 x7 u _ _ _ h hP hD hS (lv_sub hl [1, 2, 0] rfl)
      · have h := h.2 c6
        refine lv_iload_n hx hb dX1_placeOf_23 rfl (lv_at hl 2 rfl) ?_
        exact gr_i (w := wX ad ca K) (u := u) hx hb hr hlocks h hP hK hD hS dX1_placeOf_24

set_option maxHeartbeats 8000000 in
set_option maxRecDepth 100000 in
theorem cX1_placeOf (l : Launch) (dC : Nat → ClassId) (dI : Nat → Nat → Nat) (ad : Nat → Nat) (ca : Nat → ClassId) (K : KX) (sz : Nat) (u : gS) (p1 : Option Nat) (post : Int32 → gS → Prop)  (h : wpX1_placeOf K post u p1) : Met l ⟨"WorkHall$Crew", "placeOf", "(LWorkHall$Job;)I"⟩ (gw ⟨"WorkHall$Crew", "placeOf", "(LWorkHall$Job;)I"⟩ prog_2_method_4_code 3 (some .int)) ({ frames := 1, cells := 0, slots := 0, locals := 40 } : Room) (va_Pc [.ref (ad 2), va_rf p1] (gB (dC, dI) vwCl (xT ca) xE (wX ad ca K u) sz)) (va_Qi post (gAt (dC, dI) vwCl (xT ca) (wX ad ca K) (va_A (wX ad ca K u) sz)) (va_A (wX ad ca K u) sz)) 0 0 (va_A (wX ad ca K u) sz) := by
  refine Met.ofW (cc := prog_2_method_4_code) (maxL := 3) (ret := (some .int)) (by decide) rfl ?_
  intro p e s m args below meth c s₁ B hml hv
  obtain ⟨rfl, hsz, hP, hK, hD0, hE⟩ := hv
  have hx := B.exec
  have hb := B.bytes
  have hr := B.returns
  have hts : ∀ w ∈ gW, w.before _ s = true := fun w h9 => atoms_spec (ws := (gw ⟨"WorkHall$Crew", "placeOf", "(LWorkHall$Job;)I"⟩ prog_2_method_4_code 3 (some .int))) B.pre w (List.mem_cons_of_mem _ h9)
  have hown : s.vm.findClass RX1 = some m.cls := findClass_of_methodNamed B.named
  have hlocks := B.notSynchronized
  subst hsz
  have hD := hD0.self (sz := s.heap.size)
  generalize hAe : va_A (wX ad ca K u) s.heap.size = A at hD hE ⊢
  have hA : ∀ q : Nat, s.heap.size ≤ q → A q := fun q h => by rw [← hAe]; exact Or.inr h
  obtain ⟨H, hHe⟩ : ∃ z : Heap, z = s.heap := ⟨_, rfl⟩
  rw [← hHe]
  have hS : va_S A s.heap H [] := by rw [hHe]; exact va_S.rf
  have hP : va_P (dC, dI) vwCl (wX ad ca K u) H := by rw [hHe]; exact hP
  have hl := lv_entry ([.ref (ad 2), va_rf p1]) (n := 3) (by cases p1 <;> exact Nat.le_of_ble_eq_true rfl)
  rw [lg_entry_eq]
  generalize (lg_sl ([.ref (ad 2), va_rf p1]) ++ List.replicate (3 - (lg_sl ([.ref (ad 2), va_rf p1])).length) Slot.unset).toArray = ls at hl ⊢
  have hl : lv_has ls 3 [(0, .ref (ad 2)), (1, va_rf p1)] := (by cases p1 <;> exact hl)
  clear hAe
  refine lv_iconst (v := 0) hx hb dX1_placeOf_0 (by decide) ?_
  refine lv_istore_n (lv' := [(2, .int 0), (0, .ref (ad 2)), (1, va_rf p1)]) hx hb dX1_placeOf_1 rfl hl (by decide) (by cases p1 <;> rfl) (fun ls hl => ?_)
  obtain ⟨n2, h⟩ := h
  exact wpX1_placeOf_2_ok hx hb hr hml hown hts hlocks hK hA hE n2 p1 0 u _ _ _ h hP hD hS (lv_sub hl [1, 2, 0] rfl)
end
section
theorem dX1_firstIdle_0 : decode prog_2_method_3_code 0 = .ok (.aload_n 0, 1) := by decide +kernel
theorem dX1_firstIdle_1 : decode prog_2_method_3_code 1 = .ok (.aload_n 0, 1) := by decide +kernel
theorem dX1_firstIdle_2 : decode prog_2_method_3_code 2 = .ok (.aconst_null, 1) := by decide +kernel
theorem dX1_firstIdle_3 : decode prog_2_method_3_code 3 = .ok (.invokevirtual 25, 3) := by decide +kernel
theorem dX1_firstIdle_6 : decode prog_2_method_3_code 6 = .ok (.invokevirtual 29, 3) := by decide +kernel
theorem dX1_firstIdle_9 : decode prog_2_method_3_code 9 = .ok (.areturn, 1) := by decide +kernel
def wpX1_firstIdle (K : KX) (post : Option Nat → gS → Prop) (u : gS)  : Prop :=
  wpX1_placeOf K (fun (r1 : Int32) (u2 : gS) => wpX1_at K (fun (r3 : Option Nat) (u4 : gS) => post r3 u4) u2 r1) u none

set_option maxHeartbeats 8000000 in
set_option maxRecDepth 100000 in
theorem cX1_firstIdle (l : Launch) (dC : Nat → ClassId) (dI : Nat → Nat → Nat) (ad : Nat → Nat) (ca : Nat → ClassId) (K : KX) (sz : Nat) (u : gS)  (post : Option Nat → gS → Prop)  (h : wpX1_firstIdle K post u ) : Met l ⟨"WorkHall$Crew", "firstIdle", "()LWorkHall$Worker;"⟩ (gw ⟨"WorkHall$Crew", "firstIdle", "()LWorkHall$Worker;"⟩ prog_2_method_3_code 1 (some (.object "WorkHall$Worker"))) ({ frames := 2, cells := 0, slots := 0, locals := 80 } : Room) (va_Pc [.ref (ad 2)] (gB (dC, dI) vwCl (xT ca) xE (wX ad ca K u) sz)) (va_Qq post (gAt (dC, dI) vwCl (xT ca) (wX ad ca K) (va_A (wX ad ca K u) sz)) (va_A (wX ad ca K u) sz)) 0 0 (va_A (wX ad ca K u) sz) := by
  refine Met.ofW (cc := prog_2_method_3_code) (maxL := 1) (ret := (some (.object "WorkHall$Worker"))) (by decide) rfl ?_
  intro p e s m args below meth c s₁ B hml hv
  obtain ⟨rfl, hsz, hP, hK, hD0, hE⟩ := hv
  have hx := B.exec
  have hb := B.bytes
  have hr := B.returns
  have hts : ∀ w ∈ gW, w.before _ s = true := fun w h9 => atoms_spec (ws := (gw ⟨"WorkHall$Crew", "firstIdle", "()LWorkHall$Worker;"⟩ prog_2_method_3_code 1 (some (.object "WorkHall$Worker")))) B.pre w (List.mem_cons_of_mem _ h9)
  have hown : s.vm.findClass RX1 = some m.cls := findClass_of_methodNamed B.named
  have hlocks := B.notSynchronized
  subst hsz
  have hD := hD0.self (sz := s.heap.size)
  generalize hAe : va_A (wX ad ca K u) s.heap.size = A at hD hE ⊢
  have hA : ∀ q : Nat, s.heap.size ≤ q → A q := fun q h => by rw [← hAe]; exact Or.inr h
  obtain ⟨H, hHe⟩ : ∃ z : Heap, z = s.heap := ⟨_, rfl⟩
  rw [← hHe]
  have hS : va_S A s.heap H [] := by rw [hHe]; exact va_S.rf
  have hP : va_P (dC, dI) vwCl (wX ad ca K u) H := by rw [hHe]; exact hP
  have hl := lv_entry ([.ref (ad 2)]) (n := 1) (Nat.le_of_ble_eq_true rfl)
  rw [lg_entry_eq]
  generalize (lg_sl ([.ref (ad 2)]) ++ List.replicate (1 - (lg_sl ([.ref (ad 2)])).length) Slot.unset).toArray = ls at hl ⊢
  have hl : lv_has ls 1 [(0, .ref (ad 2))] := hl
  clear hAe
  refine lv_aload_n hx hb dX1_firstIdle_0 rfl (lv_at hl 0 rfl) ?_
  refine lv_aload_n hx hb dX1_firstIdle_1 rfl (lv_at hl 0 rfl) ?_
  refine lv_null hx hb dX1_firstIdle_2 ?_
  refine gc_i (w := wX ad ca K) (u := u) (va_runV (As := [va_rf none]) (rest := [.ref (ad 2)]) ⟨hx, hb, hml, hown, hts⟩ (cX1_placeOf l dC dI ad ca K H.size u none _ h) (cwV 1 hts (gG_V wd_397 wd_398 wd_399 wd_47 wd_400) rfl rfl rfl (by decide +kernel) ⟨Nat.le_of_ble_eq_true rfl, Nat.le_of_ble_eq_true rfl⟩) ⟨gB_blind xE_ok, va_recv hK hP (ci := 1) (q0 := 2) rfl rfl, gB_pre xE_ok hP hK hD hE hS hA⟩ rfl rfl hl.1 rfl (lv_room (Nat.le_of_ble_eq_true rfl)) dX1_firstIdle_3 ⟨Nat.le_of_ble_eq_true rfl, Nat.le_of_ble_eq_true rfl⟩) hD hS hA (fun r1 u2 H locs h hP hD hS => ?_)
  refine gc_q (w := wX ad ca K) (u := u2) (va_runV (As := [.int r1]) (rest := []) ⟨hx, hb, hml, hown, hts⟩ (cX1_at l dC dI ad ca K H.size u2 r1 _ h) (cwV 1 hts (gG_V wd_401 wd_402 wd_403 wd_47 wd_404) rfl rfl rfl (by decide +kernel) ⟨Nat.le_of_ble_eq_true rfl, Nat.le_of_ble_eq_true rfl⟩) ⟨gB_blind xE_ok, va_recv hK hP (ci := 1) (q0 := 2) rfl rfl, gB_pre xE_ok hP hK hD hE hS hA⟩ rfl rfl hl.1 rfl (lv_room (Nat.le_of_ble_eq_true rfl)) dX1_firstIdle_6 ⟨Nat.le_of_ble_eq_true rfl, Nat.le_of_ble_eq_true rfl⟩) hD hS hA (fun r3 u4 H locs h hP hD hS => ?_)
  exact gr_q (w := wX ad ca K) (u := u4) (v := r3) hx hb hr hlocks h hP hK hD hS dX1_firstIdle_9

theorem dX1_busy_0 : decode prog_2_method_5_code 0 = .ok (.iconst 0, 1) := by decide +kernel
theorem dX1_busy_1 : decode prog_2_method_5_code 1 = .ok (.istore_n 1, 1) := by decide +kernel
theorem dX1_busy_2 : decode prog_2_method_5_code 2 = .ok (.iconst 0, 1) := by decide +kernel
theorem dX1_busy_3 : decode prog_2_method_5_code 3 = .ok (.istore_n 2, 1) := by decide +kernel
theorem dX1_busy_4 : decode prog_2_method_5_code 4 = .ok (.iload_n 2, 1) := by decide +kernel
theorem dX1_busy_5 : decode prog_2_method_5_code 5 = .ok (.aload_n 0, 1) := by decide +kernel
theorem dX1_busy_6 : decode prog_2_method_5_code 6 = .ok (.getfield 17, 3) := by decide +kernel
theorem dX1_busy_9 : decode prog_2_method_5_code 9 = .ok (.if_icmp .ge 24, 3) := by decide +kernel
theorem dX1_busy_12 : decode prog_2_method_5_code 12 = .ok (.aload_n 0, 1) := by decide +kernel
theorem dX1_busy_13 : decode prog_2_method_5_code 13 = .ok (.getfield 11, 3) := by decide +kernel
theorem dX1_busy_16 : decode prog_2_method_5_code 16 = .ok (.iload_n 2, 1) := by decide +kernel
theorem dX1_busy_17 : decode prog_2_method_5_code 17 = .ok (.aaload, 1) := by decide +kernel
theorem dX1_busy_18 : decode prog_2_method_5_code 18 = .ok (.getfield 33, 3) := by decide +kernel
theorem dX1_busy_21 : decode prog_2_method_5_code 21 = .ok (.ifnull 6, 3) := by decide +kernel
theorem dX1_busy_24 : decode prog_2_method_5_code 24 = .ok (.iinc 1 1, 3) := by decide +kernel
theorem dX1_busy_27 : decode prog_2_method_5_code 27 = .ok (.iinc 2 1, 3) := by decide +kernel
theorem dX1_busy_30 : decode prog_2_method_5_code 30 = .ok (.goto (-26), 3) := by decide +kernel
theorem dX1_busy_33 : decode prog_2_method_5_code 33 = .ok (.iload_n 1, 1) := by decide +kernel
theorem dX1_busy_34 : decode prog_2_method_5_code 34 = .ok (.ireturn, 1) := by decide +kernel
def wpX1_busy_4 (K : KX) (post : Int32 → gS → Prop) : Nat → Int32 → Int32 → gS → Prop
  | 0 => fun _ _ _ => False
  | n + 1 => fun l1 l2 u => (((sI u 2) ≤ l2 → (post l1 u)) ∧ (¬ (sI u 2) ≤ l2 → (vp_in l2 5 ∧ (∀ r2 : Option Nat, r2 = sQ u 0 l2.toNatClampNeg → (∃ y3 : Nat, r2 = some y3 ∧ y3 ∈ K.2.1 ∧ (∀ r5 : Option Nat, r5 = sQ u 4 y3 → (((r5 = none → (∀ x7 : Int32, x7 = l2 + 1 → (wpX1_busy_4 K post n l1 x7 u))) ∧ (∀ y6 : Nat, r5 = some y6 → (∀ x8 : Int32, x8 = l1 + 1 → (∀ x9 : Int32, x9 = l2 + 1 → (wpX1_busy_4 K post n x8 x9 u))))))))))))

def wpX1_busy (K : KX) (post : Int32 → gS → Prop) (u : gS)  : Prop :=
  ∃ n4 : Nat, wpX1_busy_4 K post n4 0 0 u

set_option maxHeartbeats 8000000 in
set_option maxRecDepth 100000 in
theorem wpX1_busy_4_ok {p : Program} {l : Launch} {e : Env} {s : State} {m : MethodId} {args : Array Value} {below : List Frame} {meth : Method} {c : Code} {dC : Nat → ClassId} {dI : Nat → Nat → Nat} {ad : Nat → Nat} {ca : Nat → ClassId} {K : KX} {A : Nat → Prop} {post : Int32 → gS → Prop}   (hx : p.tables.exec = Jvm.exec) (hb : c.code = prog_2_method_5_code) (hr : meth.sig.returnType = (some .int)) (hml : c.maxLocals = 3) (hown : s.vm.findClass RX1 = some m.cls) (hts : ∀ w ∈ gW, w.before args s = true) (hlocks : meth.locks = false) (hK : va_K (dC, dI) vwCl (xT ca) s) (hA : ∀ q, s.heap.size ≤ q → A q) (hE : xE A s s.heap) :
    ∀ (n : Nat) (l1 : Int32) (l2 : Int32) (u : gS) (H : Heap) (locs : List Loc) (ls : Array Slot), wpX1_busy_4 K post n l1 l2 u → va_P (dC, dI) vwCl (wX ad ca K u) H → va_D A (wX ad ca K u) → va_S A s.heap H locs → lv_has ls 3 [(0, .ref (ad 2)), (1, .int l1), (2, .int l2)] → W p l e (headSpec (gw ⟨"WorkHall$Crew", "busy", "()I"⟩ prog_2_method_5_code 3 (some .int)) ({ frames := 1, cells := 0, slots := 0, locals := 40 } : Room)).room s m args below meth c H locs 0 0 (MQ below (va_Qi post (gAt (dC, dI) vwCl (xT ca) (wX ad ca K) (A)) (A)) args s 0 0 A) (F0 m 4 ls []) := by
  intro n
  induction n with
  | zero => exact fun _ _ _ _ _ _ h => h.elim
  | succ n ih =>
    intro l1 l2 u H locs ls h hP hD hS hl
    refine lv_iload_n hx hb dX1_busy_4 rfl (lv_at hl 2 rfl) ?_
    refine lv_aload_n hx hb dX1_busy_5 rfl (lv_at hl 0 rfl) ?_
    refine va_get (D := (dC, dI)) (ci := 1) (v := .int (sI u 2)) (C := RX1) (T := TX1) (N := 3) hx hb hts uwX1 hown hK hP 2 rfl rfl 1 (by decide) (hts _ wd_101) (fun _ h9 => h9) rfl dX1_busy_6 ?_
    refine lv_icmp_ge (tgt := 33) hx hb dX1_busy_9 (by decide) (fun c1 => ?_) (fun c1 => ?_)
    · have h := h.1 c1
      refine lv_iload_n hx hb dX1_busy_33 rfl (lv_at hl 1 rfl) ?_
      exact gr_i (w := wX ad ca K) (u := u) hx hb hr hlocks h hP hK hD hS dX1_busy_34
    · have h := h.2 c1
      refine lv_aload_n hx hb dX1_busy_12 rfl (lv_at hl 0 rfl) ?_
      refine va_get (D := (dC, dI)) (ci := 1) (v := .ref (ad 3)) (C := RX1) (T := TX1) (N := 3) hx hb hts uwX1 hown hK hP 2 rfl rfl 0 (by decide) (hts _ wd_100) (fun _ h9 => h9) rfl dX1_busy_13 ?_
      refine lv_iload_n hx hb dX1_busy_16 rfl (lv_at hl 2 rfl) ?_
      refine va_aldq (C := RX4) hx hb hK hP 3 1 rfl rfl h.1 dX1_busy_17 ?_
      have h := h.2
      refine gq_top (fun r2 er2 => ?_)
      have h := h r2 er2
      obtain ⟨y3, rfl, hy4, h⟩ := h
      obtain ⟨k9, hk9⟩ := xW_get hy4
      refine va_get (D := (dC, dI)) (ci := 4) (v := va_rf (sQ u 4 y3)) (C := RX4) (T := TX4) (N := 3) hx hb hts uwX4 hown hK hP k9 hk9 rfl 0 (by decide) (hts _ wd_87) (fun _ h9 => h9) rfl dX1_busy_18 ?_
      refine gq_top (fun r5 er5 => ?_)
      have h := h r5 er5
      rcases r5 with _ | y6
      · have h := h.1 rfl
        refine lv_ifnullN (tgt := 27) hx hb dX1_busy_21 (by decide) ?_
        obtain ⟨x7, ex7⟩ : ∃ y : Int32, y = l2 + 1 := ⟨_, rfl⟩
        have h := h x7 ex7
        refine lv_iinc (v := x7) (lv' := [(2, .int x7), (0, .ref (ad 2)), (1, .int l1)]) hx hb dX1_busy_27 hl (k := 2) rfl (by rw [ex7]; rfl) (by decide) rfl (fun ls hl => ?_)
        refine lv_goto (tgt := 4) hx hb dX1_busy_30 (by decide) ?_
        exact ih l1 x7 u _ _ _ h hP hD hS (lv_sub hl [1, 2, 0] rfl)
      · have h := h.2 y6 rfl
        refine lv_ifnull hx hb dX1_busy_21 ?_
        obtain ⟨x8, ex8⟩ : ∃ y : Int32, y = l1 + 1 := ⟨_, rfl⟩
        have h := h x8 ex8
        refine lv_iinc (v := x8) (lv' := [(1, .int x8), (0, .ref (ad 2)), (2, .int l2)]) hx hb dX1_busy_24 hl (k := 1) rfl (by rw [ex8]; rfl) (by decide) rfl (fun ls hl => ?_)
        obtain ⟨x9, ex9⟩ : ∃ y : Int32, y = l2 + 1 := ⟨_, rfl⟩
        have h := h x9 ex9
        refine lv_iinc (v := x9) (lv' := [(2, .int x9), (1, .int x8), (0, .ref (ad 2))]) hx hb dX1_busy_27 hl (k := 2) rfl (by rw [ex9]; rfl) (by decide) rfl (fun ls hl => ?_)
        refine lv_goto (tgt := 4) hx hb dX1_busy_30 (by decide) ?_
        exact ih x8 x9 u _ _ _ h hP hD hS (lv_sub hl [2, 1, 0] rfl)

set_option maxHeartbeats 8000000 in
set_option maxRecDepth 100000 in
theorem cX1_busy (l : Launch) (dC : Nat → ClassId) (dI : Nat → Nat → Nat) (ad : Nat → Nat) (ca : Nat → ClassId) (K : KX) (sz : Nat) (u : gS)  (post : Int32 → gS → Prop)  (h : wpX1_busy K post u ) : Met l ⟨"WorkHall$Crew", "busy", "()I"⟩ (gw ⟨"WorkHall$Crew", "busy", "()I"⟩ prog_2_method_5_code 3 (some .int)) ({ frames := 1, cells := 0, slots := 0, locals := 40 } : Room) (va_Pc [.ref (ad 2)] (gB (dC, dI) vwCl (xT ca) xE (wX ad ca K u) sz)) (va_Qi post (gAt (dC, dI) vwCl (xT ca) (wX ad ca K) (va_A (wX ad ca K u) sz)) (va_A (wX ad ca K u) sz)) 0 0 (va_A (wX ad ca K u) sz) := by
  refine Met.ofW (cc := prog_2_method_5_code) (maxL := 3) (ret := (some .int)) (by decide) rfl ?_
  intro p e s m args below meth c s₁ B hml hv
  obtain ⟨rfl, hsz, hP, hK, hD0, hE⟩ := hv
  have hx := B.exec
  have hb := B.bytes
  have hr := B.returns
  have hts : ∀ w ∈ gW, w.before _ s = true := fun w h9 => atoms_spec (ws := (gw ⟨"WorkHall$Crew", "busy", "()I"⟩ prog_2_method_5_code 3 (some .int))) B.pre w (List.mem_cons_of_mem _ h9)
  have hown : s.vm.findClass RX1 = some m.cls := findClass_of_methodNamed B.named
  have hlocks := B.notSynchronized
  subst hsz
  have hD := hD0.self (sz := s.heap.size)
  generalize hAe : va_A (wX ad ca K u) s.heap.size = A at hD hE ⊢
  have hA : ∀ q : Nat, s.heap.size ≤ q → A q := fun q h => by rw [← hAe]; exact Or.inr h
  obtain ⟨H, hHe⟩ : ∃ z : Heap, z = s.heap := ⟨_, rfl⟩
  rw [← hHe]
  have hS : va_S A s.heap H [] := by rw [hHe]; exact va_S.rf
  have hP : va_P (dC, dI) vwCl (wX ad ca K u) H := by rw [hHe]; exact hP
  have hl := lv_entry ([.ref (ad 2)]) (n := 3) (Nat.le_of_ble_eq_true rfl)
  rw [lg_entry_eq]
  generalize (lg_sl ([.ref (ad 2)]) ++ List.replicate (3 - (lg_sl ([.ref (ad 2)])).length) Slot.unset).toArray = ls at hl ⊢
  have hl : lv_has ls 3 [(0, .ref (ad 2))] := hl
  clear hAe
  refine lv_iconst (v := 0) hx hb dX1_busy_0 (by decide) ?_
  refine lv_istore_n (lv' := [(1, .int 0), (0, .ref (ad 2))]) hx hb dX1_busy_1 rfl hl (by decide) rfl (fun ls hl => ?_)
  refine lv_iconst (v := 0) hx hb dX1_busy_2 (by decide) ?_
  refine lv_istore_n (lv' := [(2, .int 0), (1, .int 0), (0, .ref (ad 2))]) hx hb dX1_busy_3 rfl hl (by decide) rfl (fun ls hl => ?_)
  obtain ⟨n4, h⟩ := h
  exact wpX1_busy_4_ok hx hb hr hml hown hts hlocks hK hA hE n4 0 0 u _ _ _ h hP hD hS (lv_sub hl [2, 1, 0] rfl)

theorem dX1_hire_0 : decode prog_2_method_6_code 0 = .ok (.aload_n 0, 1) := by decide +kernel
theorem dX1_hire_1 : decode prog_2_method_6_code 1 = .ok (.getfield 17, 3) := by decide +kernel
theorem dX1_hire_4 : decode prog_2_method_6_code 4 = .ok (.iconst 5, 1) := by decide +kernel
theorem dX1_hire_5 : decode prog_2_method_6_code 5 = .ok (.if_icmp .lt 4, 3) := by decide +kernel
theorem dX1_hire_8 : decode prog_2_method_6_code 8 = .ok (.return_, 1) := by decide +kernel
theorem dX1_hire_9 : decode prog_2_method_6_code 9 = .ok (.aload_n 0, 1) := by decide +kernel
theorem dX1_hire_10 : decode prog_2_method_6_code 10 = .ok (.getfield 11, 3) := by decide +kernel
theorem dX1_hire_13 : decode prog_2_method_6_code 13 = .ok (.aload_n 0, 1) := by decide +kernel
theorem dX1_hire_14 : decode prog_2_method_6_code 14 = .ok (.getfield 17, 3) := by decide +kernel
theorem dX1_hire_17 : decode prog_2_method_6_code 17 = .ok (.aaload, 1) := by decide +kernel
theorem dX1_hire_18 : decode prog_2_method_6_code 18 = .ok (.aload_n 1, 1) := by decide +kernel
theorem dX1_hire_19 : decode prog_2_method_6_code 19 = .ok (.invokevirtual 37, 3) := by decide +kernel
theorem dX1_hire_22 : decode prog_2_method_6_code 22 = .ok (.aload_n 0, 1) := by decide +kernel
theorem dX1_hire_23 : decode prog_2_method_6_code 23 = .ok (.dup, 1) := by decide +kernel
theorem dX1_hire_24 : decode prog_2_method_6_code 24 = .ok (.getfield 17, 3) := by decide +kernel
theorem dX1_hire_27 : decode prog_2_method_6_code 27 = .ok (.iconst 1, 1) := by decide +kernel
theorem dX1_hire_28 : decode prog_2_method_6_code 28 = .ok (.iadd, 1) := by decide +kernel
theorem dX1_hire_29 : decode prog_2_method_6_code 29 = .ok (.putfield 17, 3) := by decide +kernel
theorem dX1_hire_32 : decode prog_2_method_6_code 32 = .ok (.aload_n 0, 1) := by decide +kernel
theorem dX1_hire_33 : decode prog_2_method_6_code 33 = .ok (.aload_n 0, 1) := by decide +kernel
theorem dX1_hire_34 : decode prog_2_method_6_code 34 = .ok (.getfield 21, 3) := by decide +kernel
theorem dX1_hire_37 : decode prog_2_method_6_code 37 = .ok (.aload_n 0, 1) := by decide +kernel
theorem dX1_hire_38 : decode prog_2_method_6_code 38 = .ok (.getfield 17, 3) := by decide +kernel
theorem dX1_hire_41 : decode prog_2_method_6_code 41 = .ok (.invokestatic 41, 3) := by decide +kernel
theorem dX1_hire_44 : decode prog_2_method_6_code 44 = .ok (.putfield 21, 3) := by decide +kernel
theorem dX1_hire_47 : decode prog_2_method_6_code 47 = .ok (.return_, 1) := by decide +kernel
def wpX1_hire (K : KX) (post : gS → Prop) (u : gS) (p1 : Nat) : Prop :=
  (((sI u 2) < 5 → (vp_in (sI u 2) 5 ∧ (∀ r2 : Option Nat, r2 = sQ u 0 (sI u 2).toNatClampNeg → (∃ y3 : Nat, r2 = some y3 ∧ y3 ∈ K.2.1 ∧ (wpX4_begin K (fun (u6 : gS) => ∀ u7 : gS, u7 = tI u6 2 ((sI u6 2) + 1) → (∀ u8 : gS, u8 = tI u7 3 (if (sI u7 3) < (sI u7 2) then (sI u7 2) else (sI u7 3)) → (post u8))) u y3 p1))))) ∧ (¬ (sI u 2) < 5 → (post u)))

set_option maxHeartbeats 8000000 in
set_option maxRecDepth 100000 in
theorem cX1_hire (l : Launch) (dC : Nat → ClassId) (dI : Nat → Nat → Nat) (ad : Nat → Nat) (ca : Nat → ClassId) (K : KX) (sz : Nat) (u : gS) (p1 : Nat) (post : gS → Prop) (hp1 : p1 ∈ K.2.2.1) (h : wpX1_hire K post u p1) : Met l ⟨"WorkHall$Crew", "hire", "(LWorkHall$Job;)V"⟩ (gw ⟨"WorkHall$Crew", "hire", "(LWorkHall$Job;)V"⟩ prog_2_method_6_code 2 none) ({ frames := 2, cells := 0, slots := 0, locals := 80 } : Room) (va_Pc [.ref (ad 2), .ref p1] (gB (dC, dI) vwCl (xT ca) xE (wX ad ca K u) sz)) (va_Qv post (gAt (dC, dI) vwCl (xT ca) (wX ad ca K) (va_A (wX ad ca K u) sz)) (va_A (wX ad ca K u) sz)) 0 0 (va_A (wX ad ca K u) sz) := by
  refine Met.ofW (cc := prog_2_method_6_code) (maxL := 2) (ret := none) (by decide) rfl ?_
  intro p e s m args below meth c s₁ B hml hv
  obtain ⟨rfl, hsz, hP, hK, hD0, hE⟩ := hv
  have hx := B.exec
  have hb := B.bytes
  have hr := B.returns
  have hts : ∀ w ∈ gW, w.before _ s = true := fun w h9 => atoms_spec (ws := (gw ⟨"WorkHall$Crew", "hire", "(LWorkHall$Job;)V"⟩ prog_2_method_6_code 2 none)) B.pre w (List.mem_cons_of_mem _ h9)
  have hown : s.vm.findClass RX1 = some m.cls := findClass_of_methodNamed B.named
  have hlocks := B.notSynchronized
  subst hsz
  have hD := hD0.self (sz := s.heap.size)
  generalize hAe : va_A (wX ad ca K u) s.heap.size = A at hD hE ⊢
  have hA : ∀ q : Nat, s.heap.size ≤ q → A q := fun q h => by rw [← hAe]; exact Or.inr h
  obtain ⟨H, hHe⟩ : ∃ z : Heap, z = s.heap := ⟨_, rfl⟩
  rw [← hHe]
  have hS : va_S A s.heap H [] := by rw [hHe]; exact va_S.rf
  have hP : va_P (dC, dI) vwCl (wX ad ca K u) H := by rw [hHe]; exact hP
  have hl := lv_entry ([.ref (ad 2), .ref p1]) (n := 2) (Nat.le_of_ble_eq_true rfl)
  rw [lg_entry_eq]
  generalize (lg_sl ([.ref (ad 2), .ref p1]) ++ List.replicate (2 - (lg_sl ([.ref (ad 2), .ref p1])).length) Slot.unset).toArray = ls at hl ⊢
  have hl : lv_has ls 2 [(0, .ref (ad 2)), (1, .ref p1)] := hl
  clear hAe
  refine lv_aload_n hx hb dX1_hire_0 rfl (lv_at hl 0 rfl) ?_
  refine va_get (D := (dC, dI)) (ci := 1) (v := .int (sI u 2)) (C := RX1) (T := TX1) (N := 3) hx hb hts uwX1 hown hK hP 2 rfl rfl 1 (by decide) (hts _ wd_101) (fun _ h9 => h9) rfl dX1_hire_1 ?_
  refine lv_iconst (v := 5) hx hb dX1_hire_4 (by decide) ?_
  refine lv_icmp_lt (tgt := 9) hx hb dX1_hire_5 (by decide) (fun c1 => ?_) (fun c1 => ?_)
  · have h := h.1 c1
    refine lv_aload_n hx hb dX1_hire_9 rfl (lv_at hl 0 rfl) ?_
    refine va_get (D := (dC, dI)) (ci := 1) (v := .ref (ad 3)) (C := RX1) (T := TX1) (N := 3) hx hb hts uwX1 hown hK hP 2 rfl rfl 0 (by decide) (hts _ wd_100) (fun _ h9 => h9) rfl dX1_hire_10 ?_
    refine lv_aload_n hx hb dX1_hire_13 rfl (lv_at hl 0 rfl) ?_
    refine va_get (D := (dC, dI)) (ci := 1) (v := .int (sI u 2)) (C := RX1) (T := TX1) (N := 3) hx hb hts uwX1 hown hK hP 2 rfl rfl 1 (by decide) (hts _ wd_101) (fun _ h9 => h9) rfl dX1_hire_14 ?_
    refine va_aldq (C := RX4) hx hb hK hP 3 1 rfl rfl h.1 dX1_hire_17 ?_
    have h := h.2
    refine gq_top (fun r2 er2 => ?_)
    have h := h r2 er2
    refine lv_aload_n hx hb dX1_hire_18 rfl (lv_at hl 1 rfl) ?_
    obtain ⟨y3, rfl, hy4, h⟩ := h
    refine gc_v (w := wX ad ca K) (u := u) (va_runV (As := [.ref p1]) (rest := []) ⟨hx, hb, hml, hown, hts⟩ (cX4_begin l dC dI ad ca K H.size u y3 p1 _ hy4 hp1 h) (cwV 1 hts (gG_V wd_409 wd_410 wd_411 wd_48 wd_412) rfl rfl rfl (by decide +kernel) ⟨Nat.le_of_ble_eq_true rfl, Nat.le_of_ble_eq_true rfl⟩) ⟨gB_blind xE_ok, (by obtain ⟨k9, hk9⟩ := xW_get hy4; exact va_recv hK hP (ci := 4) (q0 := k9) rfl hk9), gB_pre xE_ok hP hK hD hE hS hA⟩ rfl rfl hl.1 rfl (lv_room (Nat.le_of_ble_eq_true rfl)) dX1_hire_19 ⟨Nat.le_of_ble_eq_true rfl, Nat.le_of_ble_eq_true rfl⟩) hD hS hA (fun u6 H locs h hP hD hS => ?_)
    refine lv_aload_n hx hb dX1_hire_22 rfl (lv_at hl 0 rfl) ?_
    refine lv_dup hx hb dX1_hire_23 rfl ?_
    refine va_get (D := (dC, dI)) (ci := 1) (v := .int (sI u6 2)) (C := RX1) (T := TX1) (N := 3) hx hb hts uwX1 hown hK hP 2 rfl rfl 1 (by decide) (hts _ wd_101) (fun _ h9 => h9) rfl dX1_hire_24 ?_
    refine lv_iconst (v := 1) hx hb dX1_hire_27 (by decide) ?_
    refine lv_iadd hx hb dX1_hire_28 ?_
    refine va_put (D := (dC, dI)) (ci := 1) (v := .int ((sI u6 2) + 1)) (ty := tyX1 1) (C := RX1) (T := TX1) (N := 3) hx hb hts uwX1 tyX1 tyX1_ok nmX1 hown hK hP hD hS 2 rfl rfl 1 (by decide) (hts _ wd_101) (fun _ h9 => h9) rfl (tyX1_ok 1 (by decide)) rfl rfl (Nat.le_of_ble_eq_true rfl) dX1_hire_29 (fun H locs hP hD hS => ?_)
    obtain ⟨u7, eu7⟩ : ∃ z : gS, z = tI u6 2 ((sI u6 2) + 1) := ⟨_, rfl⟩
    have hP : va_P (dC, dI) vwCl (wX ad ca K u7) H := by rw [eu7, wX_f2_size]; exact hP
    have hD : va_D A (wX ad ca K u7) := by rw [eu7, wX_f2_size]; exact hD
    have h := h u7 eu7
    refine lv_aload_n hx hb dX1_hire_32 rfl (lv_at hl 0 rfl) ?_
    refine lv_aload_n hx hb dX1_hire_33 rfl (lv_at hl 0 rfl) ?_
    refine va_get (D := (dC, dI)) (ci := 1) (v := .int (sI u7 3)) (C := RX1) (T := TX1) (N := 3) hx hb hts uwX1 hown hK hP 2 rfl rfl 2 (by decide) (hts _ wd_103) (fun _ h9 => h9) rfl dX1_hire_34 ?_
    refine lv_aload_n hx hb dX1_hire_37 rfl (lv_at hl 0 rfl) ?_
    refine va_get (D := (dC, dI)) (ci := 1) (v := .int (sI u7 2)) (C := RX1) (T := TX1) (N := 3) hx hb hts uwX1 hown hK hP 2 rfl rfl 1 (by decide) (hts _ wd_101) (fun _ h9 => h9) rfl dX1_hire_38 ?_
    refine va_mmax hx hb (hml.trans hl.1.symm) hown (hts _ wd_413) (hts _ wd_167) (hts _ wd_51) (hts _ wm_max) (Nat.le_of_ble_eq_true rfl) (Nat.le_of_ble_eq_true rfl) (Nat.zero_le _) (Nat.zero_le _) dX1_hire_41 ?_
    refine va_put (D := (dC, dI)) (ci := 1) (v := .int (if (sI u7 3) < (sI u7 2) then (sI u7 2) else (sI u7 3))) (ty := tyX1 2) (C := RX1) (T := TX1) (N := 3) hx hb hts uwX1 tyX1 tyX1_ok nmX1 hown hK hP hD hS 2 rfl rfl 2 (by decide) (hts _ wd_103) (fun _ h9 => h9) rfl (tyX1_ok 2 (by decide)) rfl rfl (Nat.le_of_ble_eq_true rfl) dX1_hire_44 (fun H locs hP hD hS => ?_)
    obtain ⟨u8, eu8⟩ : ∃ z : gS, z = tI u7 3 (if (sI u7 3) < (sI u7 2) then (sI u7 2) else (sI u7 3)) := ⟨_, rfl⟩
    have hP : va_P (dC, dI) vwCl (wX ad ca K u8) H := by rw [eu8, wX_f2_mostSeen]; exact hP
    have hD : va_D A (wX ad ca K u8) := by rw [eu8, wX_f2_mostSeen]; exact hD
    have h := h u8 eu8
    exact gr_v (w := wX ad ca K) (u := u8) hx hb hr hlocks h hP hK hD hS dX1_hire_47
  · have h := h.2 c1
    exact gr_v (w := wX ad ca K) (u := u) hx hb hr hlocks h hP hK hD hS dX1_hire_8

theorem dX1_dismiss_0 : decode prog_2_method_7_code 0 = .ok (.aload_n 0, 1) := by decide +kernel
theorem dX1_dismiss_1 : decode prog_2_method_7_code 1 = .ok (.iload_n 1, 1) := by decide +kernel
theorem dX1_dismiss_2 : decode prog_2_method_7_code 2 = .ok (.invokevirtual 29, 3) := by decide +kernel
theorem dX1_dismiss_5 : decode prog_2_method_7_code 5 = .ok (.astore_n 2, 1) := by decide +kernel
theorem dX1_dismiss_6 : decode prog_2_method_7_code 6 = .ok (.aload_n 2, 1) := by decide +kernel
theorem dX1_dismiss_7 : decode prog_2_method_7_code 7 = .ok (.ifnonnull 4, 3) := by decide +kernel
theorem dX1_dismiss_10 : decode prog_2_method_7_code 10 = .ok (.return_, 1) := by decide +kernel
theorem dX1_dismiss_11 : decode prog_2_method_7_code 11 = .ok (.iload_n 1, 1) := by decide +kernel
theorem dX1_dismiss_12 : decode prog_2_method_7_code 12 = .ok (.istore_n 3, 1) := by decide +kernel
theorem dX1_dismiss_13 : decode prog_2_method_7_code 13 = .ok (.iload_n 3, 1) := by decide +kernel
theorem dX1_dismiss_14 : decode prog_2_method_7_code 14 = .ok (.aload_n 0, 1) := by decide +kernel
theorem dX1_dismiss_15 : decode prog_2_method_7_code 15 = .ok (.getfield 17, 3) := by decide +kernel
theorem dX1_dismiss_18 : decode prog_2_method_7_code 18 = .ok (.iconst 1, 1) := by decide +kernel
theorem dX1_dismiss_19 : decode prog_2_method_7_code 19 = .ok (.isub, 1) := by decide +kernel
theorem dX1_dismiss_20 : decode prog_2_method_7_code 20 = .ok (.if_icmp .ge 23, 3) := by decide +kernel
theorem dX1_dismiss_23 : decode prog_2_method_7_code 23 = .ok (.aload_n 0, 1) := by decide +kernel
theorem dX1_dismiss_24 : decode prog_2_method_7_code 24 = .ok (.getfield 11, 3) := by decide +kernel
theorem dX1_dismiss_27 : decode prog_2_method_7_code 27 = .ok (.iload_n 3, 1) := by decide +kernel
theorem dX1_dismiss_28 : decode prog_2_method_7_code 28 = .ok (.aload_n 0, 1) := by decide +kernel
theorem dX1_dismiss_29 : decode prog_2_method_7_code 29 = .ok (.getfield 11, 3) := by decide +kernel
theorem dX1_dismiss_32 : decode prog_2_method_7_code 32 = .ok (.iload_n 3, 1) := by decide +kernel
theorem dX1_dismiss_33 : decode prog_2_method_7_code 33 = .ok (.iconst 1, 1) := by decide +kernel
theorem dX1_dismiss_34 : decode prog_2_method_7_code 34 = .ok (.iadd, 1) := by decide +kernel
theorem dX1_dismiss_35 : decode prog_2_method_7_code 35 = .ok (.aaload, 1) := by decide +kernel
theorem dX1_dismiss_36 : decode prog_2_method_7_code 36 = .ok (.aastore, 1) := by decide +kernel
theorem dX1_dismiss_37 : decode prog_2_method_7_code 37 = .ok (.iinc 3 1, 3) := by decide +kernel
theorem dX1_dismiss_40 : decode prog_2_method_7_code 40 = .ok (.goto (-27), 3) := by decide +kernel
theorem dX1_dismiss_43 : decode prog_2_method_7_code 43 = .ok (.aload_n 0, 1) := by decide +kernel
theorem dX1_dismiss_44 : decode prog_2_method_7_code 44 = .ok (.dup, 1) := by decide +kernel
theorem dX1_dismiss_45 : decode prog_2_method_7_code 45 = .ok (.getfield 17, 3) := by decide +kernel
theorem dX1_dismiss_48 : decode prog_2_method_7_code 48 = .ok (.iconst 1, 1) := by decide +kernel
theorem dX1_dismiss_49 : decode prog_2_method_7_code 49 = .ok (.isub, 1) := by decide +kernel
theorem dX1_dismiss_50 : decode prog_2_method_7_code 50 = .ok (.putfield 17, 3) := by decide +kernel
theorem dX1_dismiss_53 : decode prog_2_method_7_code 53 = .ok (.aload_n 0, 1) := by decide +kernel
theorem dX1_dismiss_54 : decode prog_2_method_7_code 54 = .ok (.getfield 11, 3) := by decide +kernel
theorem dX1_dismiss_57 : decode prog_2_method_7_code 57 = .ok (.aload_n 0, 1) := by decide +kernel
theorem dX1_dismiss_58 : decode prog_2_method_7_code 58 = .ok (.getfield 17, 3) := by decide +kernel
theorem dX1_dismiss_61 : decode prog_2_method_7_code 61 = .ok (.aload_n 2, 1) := by decide +kernel
theorem dX1_dismiss_62 : decode prog_2_method_7_code 62 = .ok (.aastore, 1) := by decide +kernel
theorem dX1_dismiss_63 : decode prog_2_method_7_code 63 = .ok (.return_, 1) := by decide +kernel
def wpX1_dismiss_13 (K : KX) (post : gS → Prop) : Nat → Int32 → Nat → Int32 → gS → Prop
  | 0 => fun _ _ _ _ => False
  | n + 1 => fun l1 l2 l3 u => ((((sI u 2) - 1) ≤ l3 → (∀ u5 : gS, u5 = tI u 2 ((sI u 2) - 1) → (l2 ∈ K.2.1 ∧ (vp_in (sI u5 2) 5 ∧ (∀ u7 : gS, u7 = tQ u5 0 ((sI u5 2).toNatClampNeg) (some l2) → (post u7)))))) ∧ (¬ ((sI u 2) - 1) ≤ l3 → (vp_in (l3 + 1) 5 ∧ (∀ r8 : Option Nat, r8 = sQ u 0 (l3 + 1).toNatClampNeg → ((∀ y9 : Nat, r8 = some y9 → y9 ∈ K.2.1) ∧ (vp_in l3 5 ∧ (∀ u10 : gS, u10 = tQ u 0 l3.toNatClampNeg r8 → (∀ x11 : Int32, x11 = l3 + 1 → (wpX1_dismiss_13 K post n l1 l2 x11 u10)))))))))

def wpX1_dismiss (K : KX) (post : gS → Prop) (u : gS) (p1 : Int32) : Prop :=
  wpX1_at K (fun (r1 : Option Nat) (u2 : gS) => ((r1 = none → (post u2)) ∧ (∀ y3 : Nat, r1 = some y3 → (∃ n13 : Nat, wpX1_dismiss_13 K post n13 p1 y3 p1 u2)))) u p1

set_option maxHeartbeats 8000000 in
set_option maxRecDepth 100000 in
theorem wpX1_dismiss_13_ok {p : Program} {l : Launch} {e : Env} {s : State} {m : MethodId} {args : Array Value} {below : List Frame} {meth : Method} {c : Code} {dC : Nat → ClassId} {dI : Nat → Nat → Nat} {ad : Nat → Nat} {ca : Nat → ClassId} {K : KX} {A : Nat → Prop} {post : gS → Prop}   (hx : p.tables.exec = Jvm.exec) (hb : c.code = prog_2_method_7_code) (hr : meth.sig.returnType = none) (hml : c.maxLocals = 4) (hown : s.vm.findClass RX1 = some m.cls) (hts : ∀ w ∈ gW, w.before args s = true) (hlocks : meth.locks = false) (hK : va_K (dC, dI) vwCl (xT ca) s) (hA : ∀ q, s.heap.size ≤ q → A q) (hE : xE A s s.heap) :
    ∀ (n : Nat) (l1 : Int32) (l2 : Nat) (l3 : Int32) (u : gS) (H : Heap) (locs : List Loc) (ls : Array Slot), wpX1_dismiss_13 K post n l1 l2 l3 u → va_P (dC, dI) vwCl (wX ad ca K u) H → va_D A (wX ad ca K u) → va_S A s.heap H locs → lv_has ls 4 [(0, .ref (ad 2)), (1, .int l1), (2, .ref l2), (3, .int l3)] → W p l e (headSpec (gw ⟨"WorkHall$Crew", "dismiss", "(I)V"⟩ prog_2_method_7_code 4 none) ({ frames := 2, cells := 0, slots := 0, locals := 80 } : Room)).room s m args below meth c H locs 0 0 (MQ below (va_Qv post (gAt (dC, dI) vwCl (xT ca) (wX ad ca K) (A)) (A)) args s 0 0 A) (F0 m 13 ls []) := by
  intro n
  induction n with
  | zero => exact fun _ _ _ _ _ _ _ h => h.elim
  | succ n ih =>
    intro l1 l2 l3 u H locs ls h hP hD hS hl
    refine lv_iload_n hx hb dX1_dismiss_13 rfl (lv_at hl 3 rfl) ?_
    refine lv_aload_n hx hb dX1_dismiss_14 rfl (lv_at hl 0 rfl) ?_
    refine va_get (D := (dC, dI)) (ci := 1) (v := .int (sI u 2)) (C := RX1) (T := TX1) (N := 3) hx hb hts uwX1 hown hK hP 2 rfl rfl 1 (by decide) (hts _ wd_101) (fun _ h9 => h9) rfl dX1_dismiss_15 ?_
    refine lv_iconst (v := 1) hx hb dX1_dismiss_18 (by decide) ?_
    refine lv_isub hx hb dX1_dismiss_19 ?_
    refine lv_icmp_ge (tgt := 43) hx hb dX1_dismiss_20 (by decide) (fun c4 => ?_) (fun c4 => ?_)
    · have h := h.1 c4
      refine lv_aload_n hx hb dX1_dismiss_43 rfl (lv_at hl 0 rfl) ?_
      refine lv_dup hx hb dX1_dismiss_44 rfl ?_
      refine va_get (D := (dC, dI)) (ci := 1) (v := .int (sI u 2)) (C := RX1) (T := TX1) (N := 3) hx hb hts uwX1 hown hK hP 2 rfl rfl 1 (by decide) (hts _ wd_101) (fun _ h9 => h9) rfl dX1_dismiss_45 ?_
      refine lv_iconst (v := 1) hx hb dX1_dismiss_48 (by decide) ?_
      refine lv_isub hx hb dX1_dismiss_49 ?_
      refine va_put (D := (dC, dI)) (ci := 1) (v := .int ((sI u 2) - 1)) (ty := tyX1 1) (C := RX1) (T := TX1) (N := 3) hx hb hts uwX1 tyX1 tyX1_ok nmX1 hown hK hP hD hS 2 rfl rfl 1 (by decide) (hts _ wd_101) (fun _ h9 => h9) rfl (tyX1_ok 1 (by decide)) rfl rfl (Nat.le_of_ble_eq_true rfl) dX1_dismiss_50 (fun H locs hP hD hS => ?_)
      obtain ⟨u5, eu5⟩ : ∃ z : gS, z = tI u 2 ((sI u 2) - 1) := ⟨_, rfl⟩
      have hP : va_P (dC, dI) vwCl (wX ad ca K u5) H := by rw [eu5, wX_f2_size]; exact hP
      have hD : va_D A (wX ad ca K u5) := by rw [eu5, wX_f2_size]; exact hD
      have h := h u5 eu5
      refine lv_aload_n hx hb dX1_dismiss_53 rfl (lv_at hl 0 rfl) ?_
      refine va_get (D := (dC, dI)) (ci := 1) (v := .ref (ad 3)) (C := RX1) (T := TX1) (N := 3) hx hb hts uwX1 hown hK hP 2 rfl rfl 0 (by decide) (hts _ wd_100) (fun _ h9 => h9) rfl dX1_dismiss_54 ?_
      refine lv_aload_n hx hb dX1_dismiss_57 rfl (lv_at hl 0 rfl) ?_
      refine va_get (D := (dC, dI)) (ci := 1) (v := .int (sI u5 2)) (C := RX1) (T := TX1) (N := 3) hx hb hts uwX1 hown hK hP 2 rfl rfl 1 (by decide) (hts _ wd_101) (fun _ h9 => h9) rfl dX1_dismiss_58 ?_
      refine lv_aload_n hx hb dX1_dismiss_61 rfl (lv_at hl 2 rfl) ?_
      obtain ⟨hy6, h⟩ := h
      refine gq_aast (v := (some l2)) (r := (RX4, TX4, 3)) hx hb hK hP hD hS 3 1 4 rfl rfl (fun y9 e9 => by cases e9; obtain ⟨k9, hk9⟩ := xW_get hy6; exact ⟨k9, _, hk9⟩) rfl h.1 dX1_dismiss_62 (fun H locs hP hD hS => ?_)
      have h := h.2
      obtain ⟨u7, eu7⟩ : ∃ z : gS, z = tQ u5 0 ((sI u5 2).toNatClampNeg) (some l2) := ⟨_, rfl⟩
      have hP : va_P (dC, dI) vwCl (wX ad ca K u7) H := by rw [eu7, wX_a3]; exact hP
      have hD : va_D A (wX ad ca K u7) := by rw [eu7, wX_a3]; exact hD
      have h := h u7 eu7
      exact gr_v (w := wX ad ca K) (u := u7) hx hb hr hlocks h hP hK hD hS dX1_dismiss_63
    · have h := h.2 c4
      refine lv_aload_n hx hb dX1_dismiss_23 rfl (lv_at hl 0 rfl) ?_
      refine va_get (D := (dC, dI)) (ci := 1) (v := .ref (ad 3)) (C := RX1) (T := TX1) (N := 3) hx hb hts uwX1 hown hK hP 2 rfl rfl 0 (by decide) (hts _ wd_100) (fun _ h9 => h9) rfl dX1_dismiss_24 ?_
      refine lv_iload_n hx hb dX1_dismiss_27 rfl (lv_at hl 3 rfl) ?_
      refine lv_aload_n hx hb dX1_dismiss_28 rfl (lv_at hl 0 rfl) ?_
      refine va_get (D := (dC, dI)) (ci := 1) (v := .ref (ad 3)) (C := RX1) (T := TX1) (N := 3) hx hb hts uwX1 hown hK hP 2 rfl rfl 0 (by decide) (hts _ wd_100) (fun _ h9 => h9) rfl dX1_dismiss_29 ?_
      refine lv_iload_n hx hb dX1_dismiss_32 rfl (lv_at hl 3 rfl) ?_
      refine lv_iconst (v := 1) hx hb dX1_dismiss_33 (by decide) ?_
      refine lv_iadd hx hb dX1_dismiss_34 ?_
      refine va_aldq (C := RX4) hx hb hK hP 3 1 rfl rfl h.1 dX1_dismiss_35 ?_
      have h := h.2
      refine gq_top (fun r8 er8 => ?_)
      have h := h r8 er8
      obtain ⟨hy9, h⟩ := h
      refine gq_aast (v := r8) (r := (RX4, TX4, 3)) hx hb hK hP hD hS 3 1 4 rfl rfl (fun y9 e9 => by obtain ⟨k9, hk9⟩ := xW_get (hy9 y9 e9); exact ⟨k9, _, hk9⟩) rfl h.1 dX1_dismiss_36 (fun H locs hP hD hS => ?_)
      have h := h.2
      obtain ⟨u10, eu10⟩ : ∃ z : gS, z = tQ u 0 l3.toNatClampNeg r8 := ⟨_, rfl⟩
      have hP : va_P (dC, dI) vwCl (wX ad ca K u10) H := by rw [eu10, wX_a3]; exact hP
      have hD : va_D A (wX ad ca K u10) := by rw [eu10, wX_a3]; exact hD
      have h := h u10 eu10
      obtain ⟨x11, ex11⟩ : ∃ y : Int32, y = l3 + 1 := ⟨_, rfl⟩
      have h := h x11 ex11
      refine lv_iinc (v := x11) (lv' := [(3, .int x11), (0, .ref (ad 2)), (1, .int l1), (2, .ref l2)]) hx hb dX1_dismiss_37 hl (k := 3) rfl (by rw [ex11]; rfl) (by decide) rfl (fun ls hl => ?_)
      refine lv_goto (tgt := 13) hx hb dX1_dismiss_40 (by decide) ?_
      exact ih l1 l2 x11 u10 _ _ _ h hP hD hS (lv_sub hl [1, 2, 3, 0] rfl)

set_option maxHeartbeats 8000000 in
set_option maxRecDepth 100000 in
theorem cX1_dismiss (l : Launch) (dC : Nat → ClassId) (dI : Nat → Nat → Nat) (ad : Nat → Nat) (ca : Nat → ClassId) (K : KX) (sz : Nat) (u : gS) (p1 : Int32) (post : gS → Prop)  (h : wpX1_dismiss K post u p1) : Met l ⟨"WorkHall$Crew", "dismiss", "(I)V"⟩ (gw ⟨"WorkHall$Crew", "dismiss", "(I)V"⟩ prog_2_method_7_code 4 none) ({ frames := 2, cells := 0, slots := 0, locals := 80 } : Room) (va_Pc [.ref (ad 2), .int p1] (gB (dC, dI) vwCl (xT ca) xE (wX ad ca K u) sz)) (va_Qv post (gAt (dC, dI) vwCl (xT ca) (wX ad ca K) (va_A (wX ad ca K u) sz)) (va_A (wX ad ca K u) sz)) 0 0 (va_A (wX ad ca K u) sz) := by
  refine Met.ofW (cc := prog_2_method_7_code) (maxL := 4) (ret := none) (by decide) rfl ?_
  intro p e s m args below meth c s₁ B hml hv
  obtain ⟨rfl, hsz, hP, hK, hD0, hE⟩ := hv
  have hx := B.exec
  have hb := B.bytes
  have hr := B.returns
  have hts : ∀ w ∈ gW, w.before _ s = true := fun w h9 => atoms_spec (ws := (gw ⟨"WorkHall$Crew", "dismiss", "(I)V"⟩ prog_2_method_7_code 4 none)) B.pre w (List.mem_cons_of_mem _ h9)
  have hown : s.vm.findClass RX1 = some m.cls := findClass_of_methodNamed B.named
  have hlocks := B.notSynchronized
  subst hsz
  have hD := hD0.self (sz := s.heap.size)
  generalize hAe : va_A (wX ad ca K u) s.heap.size = A at hD hE ⊢
  have hA : ∀ q : Nat, s.heap.size ≤ q → A q := fun q h => by rw [← hAe]; exact Or.inr h
  obtain ⟨H, hHe⟩ : ∃ z : Heap, z = s.heap := ⟨_, rfl⟩
  rw [← hHe]
  have hS : va_S A s.heap H [] := by rw [hHe]; exact va_S.rf
  have hP : va_P (dC, dI) vwCl (wX ad ca K u) H := by rw [hHe]; exact hP
  have hl := lv_entry ([.ref (ad 2), .int p1]) (n := 4) (Nat.le_of_ble_eq_true rfl)
  rw [lg_entry_eq]
  generalize (lg_sl ([.ref (ad 2), .int p1]) ++ List.replicate (4 - (lg_sl ([.ref (ad 2), .int p1])).length) Slot.unset).toArray = ls at hl ⊢
  have hl : lv_has ls 4 [(0, .ref (ad 2)), (1, .int p1)] := hl
  clear hAe
  refine lv_aload_n hx hb dX1_dismiss_0 rfl (lv_at hl 0 rfl) ?_
  refine lv_iload_n hx hb dX1_dismiss_1 rfl (lv_at hl 1 rfl) ?_
  refine gc_q (w := wX ad ca K) (u := u) (va_runV (As := [.int p1]) (rest := []) ⟨hx, hb, hml, hown, hts⟩ (cX1_at l dC dI ad ca K H.size u p1 _ h) (cwV 1 hts (gG_V wd_401 wd_402 wd_403 wd_47 wd_404) rfl rfl rfl (by decide +kernel) ⟨Nat.le_of_ble_eq_true rfl, Nat.le_of_ble_eq_true rfl⟩) ⟨gB_blind xE_ok, va_recv hK hP (ci := 1) (q0 := 2) rfl rfl, gB_pre xE_ok hP hK hD hE hS hA⟩ rfl rfl hl.1 rfl (lv_room (Nat.le_of_ble_eq_true rfl)) dX1_dismiss_2 ⟨Nat.le_of_ble_eq_true rfl, Nat.le_of_ble_eq_true rfl⟩) hD hS hA (fun r1 u2 H locs h hP hD hS => ?_)
  refine gq_astore_n (r := r1) (lv' := [(2, va_rf r1), (0, .ref (ad 2)), (1, .int p1)]) hx hb dX1_dismiss_5 rfl hl (by decide) rfl (fun ls hl => ?_)
  refine gq_aload_n (r := r1) hx hb dX1_dismiss_6 rfl (lv_at hl 0 rfl) ?_
  rcases r1 with _ | y3
  · have h := h.1 rfl
    refine lv_ifnonnullN hx hb dX1_dismiss_7 ?_
    exact gr_v (w := wX ad ca K) (u := u2) hx hb hr hlocks h hP hK hD hS dX1_dismiss_10
  · have h := h.2 y3 rfl
    refine lv_ifnonnull (tgt := 11) hx hb dX1_dismiss_7 (by decide) ?_
    refine lv_iload_n hx hb dX1_dismiss_11 rfl (lv_at hl 2 rfl) ?_
    refine lv_istore_n (lv' := [(3, .int p1), (2, .ref y3), (0, .ref (ad 2)), (1, .int p1)]) hx hb dX1_dismiss_12 rfl hl (by decide) rfl (fun ls hl => ?_)
    obtain ⟨n13, h⟩ := h
    exact wpX1_dismiss_13_ok hx hb hr hml hown hts hlocks hK hA hE n13 p1 y3 p1 u2 _ _ _ h hP hD hS (lv_sub hl [2, 3, 1, 0] rfl)

theorem dX1_cancelAll_0 : decode prog_2_method_8_code 0 = .ok (.iconst 0, 1) := by decide +kernel
theorem dX1_cancelAll_1 : decode prog_2_method_8_code 1 = .ok (.istore_n 3, 1) := by decide +kernel
theorem dX1_cancelAll_2 : decode prog_2_method_8_code 2 = .ok (.iconst 0, 1) := by decide +kernel
theorem dX1_cancelAll_3 : decode prog_2_method_8_code 3 = .ok (.istore 4, 2) := by decide +kernel
theorem dX1_cancelAll_5 : decode prog_2_method_8_code 5 = .ok (.iload 4, 2) := by decide +kernel
theorem dX1_cancelAll_7 : decode prog_2_method_8_code 7 = .ok (.aload_n 0, 1) := by decide +kernel
theorem dX1_cancelAll_8 : decode prog_2_method_8_code 8 = .ok (.getfield 17, 3) := by decide +kernel
theorem dX1_cancelAll_11 : decode prog_2_method_8_code 11 = .ok (.if_icmp .ge 46, 3) := by decide +kernel
theorem dX1_cancelAll_14 : decode prog_2_method_8_code 14 = .ok (.aload_n 0, 1) := by decide +kernel
theorem dX1_cancelAll_15 : decode prog_2_method_8_code 15 = .ok (.getfield 11, 3) := by decide +kernel
theorem dX1_cancelAll_18 : decode prog_2_method_8_code 18 = .ok (.iload 4, 2) := by decide +kernel
theorem dX1_cancelAll_20 : decode prog_2_method_8_code 20 = .ok (.aaload, 1) := by decide +kernel
theorem dX1_cancelAll_21 : decode prog_2_method_8_code 21 = .ok (.getfield 33, 3) := by decide +kernel
theorem dX1_cancelAll_24 : decode prog_2_method_8_code 24 = .ok (.astore 5, 2) := by decide +kernel
theorem dX1_cancelAll_26 : decode prog_2_method_8_code 26 = .ok (.aload 5, 2) := by decide +kernel
theorem dX1_cancelAll_28 : decode prog_2_method_8_code 28 = .ok (.ifnull 23, 3) := by decide +kernel
theorem dX1_cancelAll_31 : decode prog_2_method_8_code 31 = .ok (.aload 5, 2) := by decide +kernel
theorem dX1_cancelAll_33 : decode prog_2_method_8_code 33 = .ok (.iconst 5, 1) := by decide +kernel
theorem dX1_cancelAll_34 : decode prog_2_method_8_code 34 = .ok (.putfield 47, 3) := by decide +kernel
theorem dX1_cancelAll_37 : decode prog_2_method_8_code 37 = .ok (.aload_n 0, 1) := by decide +kernel
theorem dX1_cancelAll_38 : decode prog_2_method_8_code 38 = .ok (.getfield 11, 3) := by decide +kernel
theorem dX1_cancelAll_41 : decode prog_2_method_8_code 41 = .ok (.iload 4, 2) := by decide +kernel
theorem dX1_cancelAll_43 : decode prog_2_method_8_code 43 = .ok (.aaload, 1) := by decide +kernel
theorem dX1_cancelAll_44 : decode prog_2_method_8_code 44 = .ok (.dload_n 1, 1) := by decide +kernel
theorem dX1_cancelAll_45 : decode prog_2_method_8_code 45 = .ok (.invokevirtual 52, 3) := by decide +kernel
theorem dX1_cancelAll_48 : decode prog_2_method_8_code 48 = .ok (.iinc 3 1, 3) := by decide +kernel
theorem dX1_cancelAll_51 : decode prog_2_method_8_code 51 = .ok (.iinc 4 1, 3) := by decide +kernel
theorem dX1_cancelAll_54 : decode prog_2_method_8_code 54 = .ok (.goto (-49), 3) := by decide +kernel
theorem dX1_cancelAll_57 : decode prog_2_method_8_code 57 = .ok (.iload_n 3, 1) := by decide +kernel
theorem dX1_cancelAll_58 : decode prog_2_method_8_code 58 = .ok (.ireturn, 1) := by decide +kernel
def wpX1_cancelAll_5 (K : KX) (post : Int32 → gS → Prop) : Nat → UInt64 → Int32 → Int32 → gS → Prop
  | 0 => fun _ _ _ _ => False
  | n + 1 => fun l1 l3 l4 u => (((sI u 2) ≤ l4 → (post l3 u)) ∧ (¬ (sI u 2) ≤ l4 → (vp_in l4 5 ∧ (∀ r2 : Option Nat, r2 = sQ u 0 l4.toNatClampNeg → (∃ y3 : Nat, r2 = some y3 ∧ y3 ∈ K.2.1 ∧ (∀ r5 : Option Nat, r5 = sQ u 4 y3 → (((r5 = none → (∀ x7 : Int32, x7 = l4 + 1 → (wpX1_cancelAll_5 K post n l1 l3 x7 u))) ∧ (∀ y6 : Nat, r5 = some y6 → (y6 ∈ K.2.2.1 ∧ (∀ u9 : gS, u9 = tA u 0 y6 5 → (vp_in l4 5 ∧ (∀ r10 : Option Nat, r10 = sQ u9 0 l4.toNatClampNeg → (∃ y11 : Nat, r10 = some y11 ∧ y11 ∈ K.2.1 ∧ (wpX4_rest K (fun (u14 : gS) => ∀ x15 : Int32, x15 = l3 + 1 → (∀ x16 : Int32, x16 = l4 + 1 → (wpX1_cancelAll_5 K post n l1 x15 x16 u14))) u9 y11 l1)))))))))))))))

def wpX1_cancelAll (K : KX) (post : Int32 → gS → Prop) (u : gS) (p1 : UInt64) : Prop :=
  ∃ n5 : Nat, wpX1_cancelAll_5 K post n5 p1 0 0 u

set_option maxHeartbeats 8000000 in
set_option maxRecDepth 100000 in
theorem wpX1_cancelAll_5_ok {p : Program} {l : Launch} {e : Env} {s : State} {m : MethodId} {args : Array Value} {below : List Frame} {meth : Method} {c : Code} {dC : Nat → ClassId} {dI : Nat → Nat → Nat} {ad : Nat → Nat} {ca : Nat → ClassId} {K : KX} {A : Nat → Prop} {post : Int32 → gS → Prop}   (hx : p.tables.exec = Jvm.exec) (hb : c.code = prog_2_method_8_code) (hr : meth.sig.returnType = (some .int)) (hml : c.maxLocals = 6) (hown : s.vm.findClass RX1 = some m.cls) (hts : ∀ w ∈ gW, w.before args s = true) (hlocks : meth.locks = false) (hK : va_K (dC, dI) vwCl (xT ca) s) (hA : ∀ q, s.heap.size ≤ q → A q) (hE : xE A s s.heap) :
    ∀ (n : Nat) (l1 : UInt64) (l3 : Int32) (l4 : Int32) (u : gS) (H : Heap) (locs : List Loc) (ls : Array Slot), wpX1_cancelAll_5 K post n l1 l3 l4 u → va_P (dC, dI) vwCl (wX ad ca K u) H → va_D A (wX ad ca K u) → va_S A s.heap H locs → lv_has ls 6 [(0, .ref (ad 2)), (1, .double l1), (3, .int l3), (4, .int l4)] → W p l e (headSpec (gw ⟨"WorkHall$Crew", "cancelAll", "(D)I"⟩ prog_2_method_8_code 6 (some .int)) ({ frames := 2, cells := 0, slots := 0, locals := 80 } : Room)).room s m args below meth c H locs 0 0 (MQ below (va_Qi post (gAt (dC, dI) vwCl (xT ca) (wX ad ca K) (A)) (A)) args s 0 0 A) (F0 m 5 ls []) := by
  intro n
  induction n with
  | zero => exact fun _ _ _ _ _ _ _ h => h.elim
  | succ n ih =>
    intro l1 l3 l4 u H locs ls h hP hD hS hl
    refine lv_iload hx hb dX1_cancelAll_5 (lv_at hl 3 rfl) ?_
    refine lv_aload_n hx hb dX1_cancelAll_7 rfl (lv_at hl 0 rfl) ?_
    refine va_get (D := (dC, dI)) (ci := 1) (v := .int (sI u 2)) (C := RX1) (T := TX1) (N := 3) hx hb hts uwX1 hown hK hP 2 rfl rfl 1 (by decide) (hts _ wd_101) (fun _ h9 => h9) rfl dX1_cancelAll_8 ?_
    refine lv_icmp_ge (tgt := 57) hx hb dX1_cancelAll_11 (by decide) (fun c1 => ?_) (fun c1 => ?_)
    · have h := h.1 c1
      refine lv_iload_n hx hb dX1_cancelAll_57 rfl (lv_at hl 2 rfl) ?_
      exact gr_i (w := wX ad ca K) (u := u) hx hb hr hlocks h hP hK hD hS dX1_cancelAll_58
    · have h := h.2 c1
      refine lv_aload_n hx hb dX1_cancelAll_14 rfl (lv_at hl 0 rfl) ?_
      refine va_get (D := (dC, dI)) (ci := 1) (v := .ref (ad 3)) (C := RX1) (T := TX1) (N := 3) hx hb hts uwX1 hown hK hP 2 rfl rfl 0 (by decide) (hts _ wd_100) (fun _ h9 => h9) rfl dX1_cancelAll_15 ?_
      refine lv_iload hx hb dX1_cancelAll_18 (lv_at hl 3 rfl) ?_
      refine va_aldq (C := RX4) hx hb hK hP 3 1 rfl rfl h.1 dX1_cancelAll_20 ?_
      have h := h.2
      refine gq_top (fun r2 er2 => ?_)
      have h := h r2 er2
      obtain ⟨y3, rfl, hy4, h⟩ := h
      obtain ⟨k9, hk9⟩ := xW_get hy4
      refine va_get (D := (dC, dI)) (ci := 4) (v := va_rf (sQ u 4 y3)) (C := RX4) (T := TX4) (N := 3) hx hb hts uwX4 hown hK hP k9 hk9 rfl 0 (by decide) (hts _ wd_87) (fun _ h9 => h9) rfl dX1_cancelAll_21 ?_
      refine gq_top (fun r5 er5 => ?_)
      have h := h r5 er5
      refine gq_astore (r := r5) (lv' := [(5, va_rf r5), (0, .ref (ad 2)), (1, .double l1), (3, .int l3), (4, .int l4)]) hx hb dX1_cancelAll_24 hl (by decide) rfl (fun ls hl => ?_)
      refine gq_aload (r := r5) hx hb dX1_cancelAll_26 (lv_at hl 0 rfl) ?_
      rcases r5 with _ | y6
      · have h := h.1 rfl
        refine lv_ifnullN (tgt := 51) hx hb dX1_cancelAll_28 (by decide) ?_
        obtain ⟨x7, ex7⟩ : ∃ y : Int32, y = l4 + 1 := ⟨_, rfl⟩
        have h := h x7 ex7
        refine lv_iinc (v := x7) (lv' := [(4, .int x7), (5, .null), (0, .ref (ad 2)), (1, .double l1), (3, .int l3)]) hx hb dX1_cancelAll_51 hl (k := 4) rfl (by rw [ex7]; rfl) (by decide) rfl (fun ls hl => ?_)
        refine lv_goto (tgt := 5) hx hb dX1_cancelAll_54 (by decide) ?_
        exact ih l1 l3 x7 u _ _ _ h hP hD hS (lv_sub hl [2, 3, 4, 0] rfl)
      · have h := h.2 y6 rfl
        refine lv_ifnull hx hb dX1_cancelAll_28 ?_
        refine lv_aload hx hb dX1_cancelAll_31 (lv_at hl 0 rfl) ?_
        refine lv_iconst (v := 5) hx hb dX1_cancelAll_33 (by decide) ?_
        obtain ⟨hy8, h⟩ := h
        obtain ⟨k9, hk9⟩ := xJ_get hy8
        have e9 := xJ_state (v := 5) hD hy8 hk9
        refine va_put (D := (dC, dI)) (ci := 5) (v := .int 5) (ty := tyX5 5) (C := RX5) (T := TX5) (N := 9) hx hb hts uwX5 tyX5 tyX5_ok nmX5 hown hK hP hD hS k9 hk9 rfl 5 (by decide) (hts _ wd_329) (fun _ h9 => h9) rfl (tyX5_ok 5 (by decide)) rfl rfl (Nat.le_of_ble_eq_true rfl) dX1_cancelAll_34 (fun H locs hP hD hS => ?_)
        obtain ⟨u9, eu9⟩ : ∃ z : gS, z = tA u 0 y6 5 := ⟨_, rfl⟩
        have hP : va_P (dC, dI) vwCl (wX ad ca K u9) H := by rw [eu9, ← e9]; exact hP
        have hD : va_D A (wX ad ca K u9) := by rw [eu9, ← e9]; exact hD
        have h := h u9 eu9
        refine lv_aload_n hx hb dX1_cancelAll_37 rfl (lv_at hl 1 rfl) ?_
        refine va_get (D := (dC, dI)) (ci := 1) (v := .ref (ad 3)) (C := RX1) (T := TX1) (N := 3) hx hb hts uwX1 hown hK hP 2 rfl rfl 0 (by decide) (hts _ wd_100) (fun _ h9 => h9) rfl dX1_cancelAll_38 ?_
        refine lv_iload hx hb dX1_cancelAll_41 (lv_at hl 4 rfl) ?_
        refine va_aldq (C := RX4) hx hb hK hP 3 1 rfl rfl h.1 dX1_cancelAll_43 ?_
        have h := h.2
        refine gq_top (fun r10 er10 => ?_)
        have h := h r10 er10
        refine lv_dload_n hx hb dX1_cancelAll_44 rfl (lv_at hl 2 rfl) ?_
        obtain ⟨y11, rfl, hy12, h⟩ := h
        refine gc_v (w := wX ad ca K) (u := u9) (va_runV (As := [.double l1]) (rest := []) ⟨hx, hb, hml, hown, hts⟩ (cX4_rest l dC dI ad ca K H.size u9 y11 l1 _ hy12 h) (cwV 1 hts (gG_V wd_650 wd_522 wd_523 wd_48 wd_524) rfl rfl rfl (by decide +kernel) ⟨Nat.le_of_ble_eq_true rfl, Nat.le_of_ble_eq_true rfl⟩) ⟨gB_blind xE_ok, (by obtain ⟨k9, hk9⟩ := xW_get hy12; exact va_recv hK hP (ci := 4) (q0 := k9) rfl hk9), gB_pre xE_ok hP hK hD hE hS hA⟩ rfl rfl hl.1 rfl (lv_room (Nat.le_of_ble_eq_true rfl)) dX1_cancelAll_45 ⟨Nat.le_of_ble_eq_true rfl, Nat.le_of_ble_eq_true rfl⟩) hD hS hA (fun u14 H locs h hP hD hS => ?_)
        obtain ⟨x15, ex15⟩ : ∃ y : Int32, y = l3 + 1 := ⟨_, rfl⟩
        have h := h x15 ex15
        refine lv_iinc (v := x15) (lv' := [(3, .int x15), (5, .ref y6), (0, .ref (ad 2)), (1, .double l1), (4, .int l4)]) hx hb dX1_cancelAll_48 hl (k := 3) rfl (by rw [ex15]; rfl) (by decide) rfl (fun ls hl => ?_)
        obtain ⟨x16, ex16⟩ : ∃ y : Int32, y = l4 + 1 := ⟨_, rfl⟩
        have h := h x16 ex16
        refine lv_iinc (v := x16) (lv' := [(4, .int x16), (3, .int x15), (5, .ref y6), (0, .ref (ad 2)), (1, .double l1)]) hx hb dX1_cancelAll_51 hl (k := 4) rfl (by rw [ex16]; rfl) (by decide) rfl (fun ls hl => ?_)
        refine lv_goto (tgt := 5) hx hb dX1_cancelAll_54 (by decide) ?_
        exact ih l1 x15 x16 u14 _ _ _ h hP hD hS (lv_sub hl [3, 4, 1, 0] rfl)

set_option maxHeartbeats 8000000 in
set_option maxRecDepth 100000 in
theorem cX1_cancelAll (l : Launch) (dC : Nat → ClassId) (dI : Nat → Nat → Nat) (ad : Nat → Nat) (ca : Nat → ClassId) (K : KX) (sz : Nat) (u : gS) (p1 : UInt64) (post : Int32 → gS → Prop)  (h : wpX1_cancelAll K post u p1) : Met l ⟨"WorkHall$Crew", "cancelAll", "(D)I"⟩ (gw ⟨"WorkHall$Crew", "cancelAll", "(D)I"⟩ prog_2_method_8_code 6 (some .int)) ({ frames := 2, cells := 0, slots := 0, locals := 80 } : Room) (va_Pc [.ref (ad 2), .double p1] (gB (dC, dI) vwCl (xT ca) xE (wX ad ca K u) sz)) (va_Qi post (gAt (dC, dI) vwCl (xT ca) (wX ad ca K) (va_A (wX ad ca K u) sz)) (va_A (wX ad ca K u) sz)) 0 0 (va_A (wX ad ca K u) sz) := by
  refine Met.ofW (cc := prog_2_method_8_code) (maxL := 6) (ret := (some .int)) (by decide) rfl ?_
  intro p e s m args below meth c s₁ B hml hv
  obtain ⟨rfl, hsz, hP, hK, hD0, hE⟩ := hv
  have hx := B.exec
  have hb := B.bytes
  have hr := B.returns
  have hts : ∀ w ∈ gW, w.before _ s = true := fun w h9 => atoms_spec (ws := (gw ⟨"WorkHall$Crew", "cancelAll", "(D)I"⟩ prog_2_method_8_code 6 (some .int))) B.pre w (List.mem_cons_of_mem _ h9)
  have hown : s.vm.findClass RX1 = some m.cls := findClass_of_methodNamed B.named
  have hlocks := B.notSynchronized
  subst hsz
  have hD := hD0.self (sz := s.heap.size)
  generalize hAe : va_A (wX ad ca K u) s.heap.size = A at hD hE ⊢
  have hA : ∀ q : Nat, s.heap.size ≤ q → A q := fun q h => by rw [← hAe]; exact Or.inr h
  obtain ⟨H, hHe⟩ : ∃ z : Heap, z = s.heap := ⟨_, rfl⟩
  rw [← hHe]
  have hS : va_S A s.heap H [] := by rw [hHe]; exact va_S.rf
  have hP : va_P (dC, dI) vwCl (wX ad ca K u) H := by rw [hHe]; exact hP
  have hl := lv_entry ([.ref (ad 2), .double p1]) (n := 6) (Nat.le_of_ble_eq_true rfl)
  rw [lg_entry_eq]
  generalize (lg_sl ([.ref (ad 2), .double p1]) ++ List.replicate (6 - (lg_sl ([.ref (ad 2), .double p1])).length) Slot.unset).toArray = ls at hl ⊢
  have hl : lv_has ls 6 [(0, .ref (ad 2)), (1, .double p1)] := hl
  clear hAe
  refine lv_iconst (v := 0) hx hb dX1_cancelAll_0 (by decide) ?_
  refine lv_istore_n (lv' := [(3, .int 0), (0, .ref (ad 2)), (1, .double p1)]) hx hb dX1_cancelAll_1 rfl hl (by decide) rfl (fun ls hl => ?_)
  refine lv_iconst (v := 0) hx hb dX1_cancelAll_2 (by decide) ?_
  refine lv_istore (lv' := [(4, .int 0), (3, .int 0), (0, .ref (ad 2)), (1, .double p1)]) hx hb dX1_cancelAll_3 hl (by decide) rfl (fun ls hl => ?_)
  obtain ⟨n5, h⟩ := h
  exact wpX1_cancelAll_5_ok hx hb hr hml hown hts hlocks hK hA hE n5 p1 0 0 u _ _ _ h hP hD hS (lv_sub hl [2, 3, 1, 0] rfl)

theorem dX2_placeOf_0 : decode prog_4_method_2_code 0 = .ok (.iconst 0, 1) := by decide +kernel
theorem dX2_placeOf_1 : decode prog_4_method_2_code 1 = .ok (.istore_n 2, 1) := by decide +kernel
theorem dX2_placeOf_2 : decode prog_4_method_2_code 2 = .ok (.iload_n 2, 1) := by decide +kernel
theorem dX2_placeOf_3 : decode prog_4_method_2_code 3 = .ok (.aload_n 0, 1) := by decide +kernel
theorem dX2_placeOf_4 : decode prog_4_method_2_code 4 = .ok (.getfield 21, 3) := by decide +kernel
theorem dX2_placeOf_7 : decode prog_4_method_2_code 7 = .ok (.if_icmp .ge 21, 3) := by decide +kernel
theorem dX2_placeOf_10 : decode prog_4_method_2_code 10 = .ok (.aload_n 0, 1) := by decide +kernel
theorem dX2_placeOf_11 : decode prog_4_method_2_code 11 = .ok (.getfield 11, 3) := by decide +kernel
theorem dX2_placeOf_14 : decode prog_4_method_2_code 14 = .ok (.iload_n 2, 1) := by decide +kernel
theorem dX2_placeOf_15 : decode prog_4_method_2_code 15 = .ok (.aaload, 1) := by decide +kernel
theorem dX2_placeOf_16 : decode prog_4_method_2_code 16 = .ok (.aload_n 1, 1) := by decide +kernel
theorem dX2_placeOf_17 : decode prog_4_method_2_code 17 = .ok (.if_acmp .ne 5, 3) := by decide +kernel
theorem dX2_placeOf_20 : decode prog_4_method_2_code 20 = .ok (.iload_n 2, 1) := by decide +kernel
theorem dX2_placeOf_21 : decode prog_4_method_2_code 21 = .ok (.ireturn, 1) := by decide +kernel
theorem dX2_placeOf_22 : decode prog_4_method_2_code 22 = .ok (.iinc 2 1, 3) := by decide +kernel
theorem dX2_placeOf_25 : decode prog_4_method_2_code 25 = .ok (.goto (-23), 3) := by decide +kernel
theorem dX2_placeOf_28 : decode prog_4_method_2_code 28 = .ok (.iconst (-1), 1) := by decide +kernel
theorem dX2_placeOf_29 : decode prog_4_method_2_code 29 = .ok (.ireturn, 1) := by decide +kernel
def wpX2_placeOf_2 (K : KX) (post : Int32 → gS → Prop) : Nat → Option Nat → Int32 → gS → Prop
  | 0 => fun _ _ _ => False
  | n + 1 => fun l1 l2 u => (((sI u 4) ≤ l2 → (post (-1) u)) ∧ (¬ (sI u 4) ≤ l2 → (vp_in l2 4 ∧ (∀ r2 : Option Nat, r2 = sQ u 1 l2.toNatClampNeg → (((¬ r2 = l1 → (∀ x4 : Int32, x4 = l2 + 1 → (wpX2_placeOf_2 K post n l1 x4 u))) ∧ (r2 = l1 → (post l2 u))))))))

def wpX2_placeOf (K : KX) (post : Int32 → gS → Prop) (u : gS) (p1 : Option Nat) : Prop :=
  ∃ n2 : Nat, wpX2_placeOf_2 K post n2 p1 0 u

set_option maxHeartbeats 8000000 in
set_option maxRecDepth 100000 in
theorem wpX2_placeOf_2_ok {p : Program} {l : Launch} {e : Env} {s : State} {m : MethodId} {args : Array Value} {below : List Frame} {meth : Method} {c : Code} {dC : Nat → ClassId} {dI : Nat → Nat → Nat} {ad : Nat → Nat} {ca : Nat → ClassId} {K : KX} {A : Nat → Prop} {post : Int32 → gS → Prop}   (hx : p.tables.exec = Jvm.exec) (hb : c.code = prog_4_method_2_code) (hr : meth.sig.returnType = (some .int)) (hml : c.maxLocals = 3) (hown : s.vm.findClass RX2 = some m.cls) (hts : ∀ w ∈ gW, w.before args s = true) (hlocks : meth.locks = false) (hK : va_K (dC, dI) vwCl (xT ca) s) (hA : ∀ q, s.heap.size ≤ q → A q) (hE : xE A s s.heap) :
    ∀ (n : Nat) (l1 : Option Nat) (l2 : Int32) (u : gS) (H : Heap) (locs : List Loc) (ls : Array Slot), wpX2_placeOf_2 K post n l1 l2 u → va_P (dC, dI) vwCl (wX ad ca K u) H → va_D A (wX ad ca K u) → va_S A s.heap H locs → lv_has ls 3 [(0, .ref (ad 4)), (1, va_rf l1), (2, .int l2)] → W p l e (headSpec (gw ⟨"WorkHall$Line", "placeOf", "(LWorkHall$Job;)I"⟩ prog_4_method_2_code 3 (some .int)) ({ frames := 1, cells := 0, slots := 0, locals := 40 } : Room)).room s m args below meth c H locs 0 0 (MQ below (va_Qi post (gAt (dC, dI) vwCl (xT ca) (wX ad ca K) (A)) (A)) args s 0 0 A) (F0 m 2 ls []) := by
  intro n
  induction n with
  | zero => exact fun _ _ _ _ _ _ h => h.elim
  | succ n ih =>
    intro l1 l2 u H locs ls h hP hD hS hl
    refine lv_iload_n hx hb dX2_placeOf_2 rfl (lv_at hl 2 rfl) ?_
    refine lv_aload_n hx hb dX2_placeOf_3 rfl (lv_at hl 0 rfl) ?_
    refine va_get (D := (dC, dI)) (ci := 2) (v := .int (sI u 4)) (C := RX2) (T := TX2) (N := 5) hx hb hts uwX2 hown hK hP 4 rfl rfl 2 (by decide) (hts _ wd_121) (fun _ h9 => h9) rfl dX2_placeOf_4 ?_
    refine lv_icmp_ge (tgt := 28) hx hb dX2_placeOf_7 (by decide) (fun c1 => ?_) (fun c1 => ?_)
    · have h := h.1 c1
      refine lv_iconst (v := (-1)) hx hb dX2_placeOf_28 (by decide) ?_
      exact gr_i (w := wX ad ca K) (u := u) hx hb hr hlocks h hP hK hD hS dX2_placeOf_29
    · have h := h.2 c1
      refine lv_aload_n hx hb dX2_placeOf_10 rfl (lv_at hl 0 rfl) ?_
      refine va_get (D := (dC, dI)) (ci := 2) (v := .ref (ad 5)) (C := RX2) (T := TX2) (N := 5) hx hb hts uwX2 hown hK hP 4 rfl rfl 0 (by decide) (hts _ wd_119) (fun _ h9 => h9) rfl dX2_placeOf_11 ?_
      refine lv_iload_n hx hb dX2_placeOf_14 rfl (lv_at hl 2 rfl) ?_
      refine va_aldq (C := RX5) hx hb hK hP 5 0 rfl rfl h.1 dX2_placeOf_15 ?_
      have h := h.2
      refine gq_top (fun r2 er2 => ?_)
      have h := h r2 er2
      refine gq_aload_n (r := l1) hx hb dX2_placeOf_16 rfl (lv_at hl 1 rfl) ?_
      refine lv_acmp_ne (rx := r2) (ry := l1) (tgt := 22) hx hb dX2_placeOf_17 (by decide) (fun c3 => ?_) (fun c3 => ?_)
      · have h := h.1 c3
        obtain ⟨x4, ex4⟩ : ∃ y : Int32, y = l2 + 1 := ⟨_, rfl⟩
        have h := h x4 ex4
        refine lv_iinc (v := x4) (lv' := [(2, .int x4), (0, .ref (ad 4)), (1, va_rf l1)]) hx hb dX2_placeOf_22 hl (k := 2) rfl (by rw [ex4]; rfl) (by decide) (by cases l1 <;> rfl) (fun ls hl => ?_)
        refine lv_goto (tgt := 2) hx hb dX2_placeOf_25 (by decide) ?_
        exact ih l1 x4 u _ _ _ h hP hD hS (lv_sub hl [1, 2, 0] rfl)
      · have h := h.2 c3
        refine lv_iload_n hx hb dX2_placeOf_20 rfl (lv_at hl 2 rfl) ?_
        exact gr_i (w := wX ad ca K) (u := u) hx hb hr hlocks h hP hK hD hS dX2_placeOf_21

set_option maxHeartbeats 8000000 in
set_option maxRecDepth 100000 in
theorem cX2_placeOf (l : Launch) (dC : Nat → ClassId) (dI : Nat → Nat → Nat) (ad : Nat → Nat) (ca : Nat → ClassId) (K : KX) (sz : Nat) (u : gS) (p1 : Option Nat) (post : Int32 → gS → Prop)  (h : wpX2_placeOf K post u p1) : Met l ⟨"WorkHall$Line", "placeOf", "(LWorkHall$Job;)I"⟩ (gw ⟨"WorkHall$Line", "placeOf", "(LWorkHall$Job;)I"⟩ prog_4_method_2_code 3 (some .int)) ({ frames := 1, cells := 0, slots := 0, locals := 40 } : Room) (va_Pc [.ref (ad 4), va_rf p1] (gB (dC, dI) vwCl (xT ca) xE (wX ad ca K u) sz)) (va_Qi post (gAt (dC, dI) vwCl (xT ca) (wX ad ca K) (va_A (wX ad ca K u) sz)) (va_A (wX ad ca K u) sz)) 0 0 (va_A (wX ad ca K u) sz) := by
  refine Met.ofW (cc := prog_4_method_2_code) (maxL := 3) (ret := (some .int)) (by decide) rfl ?_
  intro p e s m args below meth c s₁ B hml hv
  obtain ⟨rfl, hsz, hP, hK, hD0, hE⟩ := hv
  have hx := B.exec
  have hb := B.bytes
  have hr := B.returns
  have hts : ∀ w ∈ gW, w.before _ s = true := fun w h9 => atoms_spec (ws := (gw ⟨"WorkHall$Line", "placeOf", "(LWorkHall$Job;)I"⟩ prog_4_method_2_code 3 (some .int))) B.pre w (List.mem_cons_of_mem _ h9)
  have hown : s.vm.findClass RX2 = some m.cls := findClass_of_methodNamed B.named
  have hlocks := B.notSynchronized
  subst hsz
  have hD := hD0.self (sz := s.heap.size)
  generalize hAe : va_A (wX ad ca K u) s.heap.size = A at hD hE ⊢
  have hA : ∀ q : Nat, s.heap.size ≤ q → A q := fun q h => by rw [← hAe]; exact Or.inr h
  obtain ⟨H, hHe⟩ : ∃ z : Heap, z = s.heap := ⟨_, rfl⟩
  rw [← hHe]
  have hS : va_S A s.heap H [] := by rw [hHe]; exact va_S.rf
  have hP : va_P (dC, dI) vwCl (wX ad ca K u) H := by rw [hHe]; exact hP
  have hl := lv_entry ([.ref (ad 4), va_rf p1]) (n := 3) (by cases p1 <;> exact Nat.le_of_ble_eq_true rfl)
  rw [lg_entry_eq]
  generalize (lg_sl ([.ref (ad 4), va_rf p1]) ++ List.replicate (3 - (lg_sl ([.ref (ad 4), va_rf p1])).length) Slot.unset).toArray = ls at hl ⊢
  have hl : lv_has ls 3 [(0, .ref (ad 4)), (1, va_rf p1)] := (by cases p1 <;> exact hl)
  clear hAe
  refine lv_iconst (v := 0) hx hb dX2_placeOf_0 (by decide) ?_
  refine lv_istore_n (lv' := [(2, .int 0), (0, .ref (ad 4)), (1, va_rf p1)]) hx hb dX2_placeOf_1 rfl hl (by decide) (by cases p1 <;> rfl) (fun ls hl => ?_)
  obtain ⟨n2, h⟩ := h
  exact wpX2_placeOf_2_ok hx hb hr hml hown hts hlocks hK hA hE n2 p1 0 u _ _ _ h hP hD hS (lv_sub hl [1, 2, 0] rfl)
end
section
theorem dX2_add_0 : decode prog_4_method_3_code 0 = .ok (.aload_n 0, 1) := by decide +kernel
theorem dX2_add_1 : decode prog_4_method_3_code 1 = .ok (.getfield 21, 3) := by decide +kernel
theorem dX2_add_4 : decode prog_4_method_3_code 4 = .ok (.iconst 4, 1) := by decide +kernel
theorem dX2_add_5 : decode prog_4_method_3_code 5 = .ok (.if_icmp .lt 4, 3) := by decide +kernel
theorem dX2_add_8 : decode prog_4_method_3_code 8 = .ok (.return_, 1) := by decide +kernel
theorem dX2_add_9 : decode prog_4_method_3_code 9 = .ok (.aload_n 1, 1) := by decide +kernel
theorem dX2_add_10 : decode prog_4_method_3_code 10 = .ok (.iconst 1, 1) := by decide +kernel
theorem dX2_add_11 : decode prog_4_method_3_code 11 = .ok (.putfield 32, 3) := by decide +kernel
theorem dX2_add_14 : decode prog_4_method_3_code 14 = .ok (.aload_n 0, 1) := by decide +kernel
theorem dX2_add_15 : decode prog_4_method_3_code 15 = .ok (.getfield 11, 3) := by decide +kernel
theorem dX2_add_18 : decode prog_4_method_3_code 18 = .ok (.aload_n 0, 1) := by decide +kernel
theorem dX2_add_19 : decode prog_4_method_3_code 19 = .ok (.getfield 21, 3) := by decide +kernel
theorem dX2_add_22 : decode prog_4_method_3_code 22 = .ok (.aload_n 1, 1) := by decide +kernel
theorem dX2_add_23 : decode prog_4_method_3_code 23 = .ok (.aastore, 1) := by decide +kernel
theorem dX2_add_24 : decode prog_4_method_3_code 24 = .ok (.aload_n 0, 1) := by decide +kernel
theorem dX2_add_25 : decode prog_4_method_3_code 25 = .ok (.getfield 17, 3) := by decide +kernel
theorem dX2_add_28 : decode prog_4_method_3_code 28 = .ok (.aload_n 0, 1) := by decide +kernel
theorem dX2_add_29 : decode prog_4_method_3_code 29 = .ok (.getfield 21, 3) := by decide +kernel
theorem dX2_add_32 : decode prog_4_method_3_code 32 = .ok (.dload_n 2, 1) := by decide +kernel
theorem dX2_add_33 : decode prog_4_method_3_code 33 = .ok (.dastore, 1) := by decide +kernel
theorem dX2_add_34 : decode prog_4_method_3_code 34 = .ok (.aload_n 0, 1) := by decide +kernel
theorem dX2_add_35 : decode prog_4_method_3_code 35 = .ok (.dup, 1) := by decide +kernel
theorem dX2_add_36 : decode prog_4_method_3_code 36 = .ok (.getfield 21, 3) := by decide +kernel
theorem dX2_add_39 : decode prog_4_method_3_code 39 = .ok (.iconst 1, 1) := by decide +kernel
theorem dX2_add_40 : decode prog_4_method_3_code 40 = .ok (.iadd, 1) := by decide +kernel
theorem dX2_add_41 : decode prog_4_method_3_code 41 = .ok (.putfield 21, 3) := by decide +kernel
theorem dX2_add_44 : decode prog_4_method_3_code 44 = .ok (.return_, 1) := by decide +kernel
def wpX2_add (K : KX) (post : gS → Prop) (u : gS) (p1 : Nat) (p2 : UInt64) : Prop :=
  (((sI u 4) < 4 → (∀ u2 : gS, u2 = tA u 0 p1 1 → (vp_in (sI u2 4) 4 ∧ (∀ u3 : gS, u3 = tQ u2 1 ((sI u2 4).toNatClampNeg) (some p1) → (vp_in (sI u3 4) 4 ∧ (∀ u4 : gS, u4 = tB u3 0 ((sI u3 4).toNatClampNeg) p2 → (∀ u5 : gS, u5 = tI u4 4 ((sI u4 4) + 1) → (post u5)))))))) ∧ (¬ (sI u 4) < 4 → (post u)))

set_option maxHeartbeats 8000000 in
set_option maxRecDepth 100000 in
theorem cX2_add (l : Launch) (dC : Nat → ClassId) (dI : Nat → Nat → Nat) (ad : Nat → Nat) (ca : Nat → ClassId) (K : KX) (sz : Nat) (u : gS) (p1 : Nat) (p2 : UInt64) (post : gS → Prop) (hp1 : p1 ∈ K.2.2.1) (h : wpX2_add K post u p1 p2) : Met l ⟨"WorkHall$Line", "add", "(LWorkHall$Job;D)V"⟩ (gw ⟨"WorkHall$Line", "add", "(LWorkHall$Job;D)V"⟩ prog_4_method_3_code 4 none) ({ frames := 1, cells := 0, slots := 0, locals := 40 } : Room) (va_Pc [.ref (ad 4), .ref p1, .double p2] (gB (dC, dI) vwCl (xT ca) xE (wX ad ca K u) sz)) (va_Qv post (gAt (dC, dI) vwCl (xT ca) (wX ad ca K) (va_A (wX ad ca K u) sz)) (va_A (wX ad ca K u) sz)) 0 0 (va_A (wX ad ca K u) sz) := by
  refine Met.ofW (cc := prog_4_method_3_code) (maxL := 4) (ret := none) (by decide) rfl ?_
  intro p e s m args below meth c s₁ B hml hv
  obtain ⟨rfl, hsz, hP, hK, hD0, hE⟩ := hv
  have hx := B.exec
  have hb := B.bytes
  have hr := B.returns
  have hts : ∀ w ∈ gW, w.before _ s = true := fun w h9 => atoms_spec (ws := (gw ⟨"WorkHall$Line", "add", "(LWorkHall$Job;D)V"⟩ prog_4_method_3_code 4 none)) B.pre w (List.mem_cons_of_mem _ h9)
  have hown : s.vm.findClass RX2 = some m.cls := findClass_of_methodNamed B.named
  have hlocks := B.notSynchronized
  subst hsz
  have hD := hD0.self (sz := s.heap.size)
  generalize hAe : va_A (wX ad ca K u) s.heap.size = A at hD hE ⊢
  have hA : ∀ q : Nat, s.heap.size ≤ q → A q := fun q h => by rw [← hAe]; exact Or.inr h
  obtain ⟨H, hHe⟩ : ∃ z : Heap, z = s.heap := ⟨_, rfl⟩
  rw [← hHe]
  have hS : va_S A s.heap H [] := by rw [hHe]; exact va_S.rf
  have hP : va_P (dC, dI) vwCl (wX ad ca K u) H := by rw [hHe]; exact hP
  have hl := lv_entry ([.ref (ad 4), .ref p1, .double p2]) (n := 4) (Nat.le_of_ble_eq_true rfl)
  rw [lg_entry_eq]
  generalize (lg_sl ([.ref (ad 4), .ref p1, .double p2]) ++ List.replicate (4 - (lg_sl ([.ref (ad 4), .ref p1, .double p2])).length) Slot.unset).toArray = ls at hl ⊢
  have hl : lv_has ls 4 [(0, .ref (ad 4)), (1, .ref p1), (2, .double p2)] := hl
  clear hAe
  refine lv_aload_n hx hb dX2_add_0 rfl (lv_at hl 0 rfl) ?_
  refine va_get (D := (dC, dI)) (ci := 2) (v := .int (sI u 4)) (C := RX2) (T := TX2) (N := 5) hx hb hts uwX2 hown hK hP 4 rfl rfl 2 (by decide) (hts _ wd_121) (fun _ h9 => h9) rfl dX2_add_1 ?_
  refine lv_iconst (v := 4) hx hb dX2_add_4 (by decide) ?_
  refine lv_icmp_lt (tgt := 9) hx hb dX2_add_5 (by decide) (fun c1 => ?_) (fun c1 => ?_)
  · have h := h.1 c1
    refine lv_aload_n hx hb dX2_add_9 rfl (lv_at hl 1 rfl) ?_
    refine lv_iconst (v := 1) hx hb dX2_add_10 (by decide) ?_
    obtain ⟨k9, hk9⟩ := xJ_get hp1
    have e9 := xJ_state (v := 1) hD hp1 hk9
    refine va_put (D := (dC, dI)) (ci := 5) (v := .int 1) (ty := tyX5 5) (C := RX5) (T := TX5) (N := 9) hx hb hts uwX5 tyX5 tyX5_ok nmX5 hown hK hP hD hS k9 hk9 rfl 5 (by decide) (hts _ wd_328) (fun _ h9 => h9) rfl (tyX5_ok 5 (by decide)) rfl rfl (Nat.le_of_ble_eq_true rfl) dX2_add_11 (fun H locs hP hD hS => ?_)
    obtain ⟨u2, eu2⟩ : ∃ z : gS, z = tA u 0 p1 1 := ⟨_, rfl⟩
    have hP : va_P (dC, dI) vwCl (wX ad ca K u2) H := by rw [eu2, ← e9]; exact hP
    have hD : va_D A (wX ad ca K u2) := by rw [eu2, ← e9]; exact hD
    have h := h u2 eu2
    refine lv_aload_n hx hb dX2_add_14 rfl (lv_at hl 0 rfl) ?_
    refine va_get (D := (dC, dI)) (ci := 2) (v := .ref (ad 5)) (C := RX2) (T := TX2) (N := 5) hx hb hts uwX2 hown hK hP 4 rfl rfl 0 (by decide) (hts _ wd_119) (fun _ h9 => h9) rfl dX2_add_15 ?_
    refine lv_aload_n hx hb dX2_add_18 rfl (lv_at hl 0 rfl) ?_
    refine va_get (D := (dC, dI)) (ci := 2) (v := .int (sI u2 4)) (C := RX2) (T := TX2) (N := 5) hx hb hts uwX2 hown hK hP 4 rfl rfl 2 (by decide) (hts _ wd_121) (fun _ h9 => h9) rfl dX2_add_19 ?_
    refine lv_aload_n hx hb dX2_add_22 rfl (lv_at hl 1 rfl) ?_
    refine gq_aast (v := (some p1)) (r := (RX5, TX5, 9)) hx hb hK hP hD hS 5 0 5 rfl rfl (fun y9 e9 => by cases e9; obtain ⟨k9, hk9⟩ := xJ_get hp1; exact ⟨k9, _, hk9⟩) rfl h.1 dX2_add_23 (fun H locs hP hD hS => ?_)
    have h := h.2
    obtain ⟨u3, eu3⟩ : ∃ z : gS, z = tQ u2 1 ((sI u2 4).toNatClampNeg) (some p1) := ⟨_, rfl⟩
    have hP : va_P (dC, dI) vwCl (wX ad ca K u3) H := by rw [eu3, wX_a5]; exact hP
    have hD : va_D A (wX ad ca K u3) := by rw [eu3, wX_a5]; exact hD
    have h := h u3 eu3
    refine lv_aload_n hx hb dX2_add_24 rfl (lv_at hl 0 rfl) ?_
    refine va_get (D := (dC, dI)) (ci := 2) (v := .ref (ad 6)) (C := RX2) (T := TX2) (N := 5) hx hb hts uwX2 hown hK hP 4 rfl rfl 1 (by decide) (hts _ wd_120) (fun _ h9 => h9) rfl dX2_add_25 ?_
    refine lv_aload_n hx hb dX2_add_28 rfl (lv_at hl 0 rfl) ?_
    refine va_get (D := (dC, dI)) (ci := 2) (v := .int (sI u3 4)) (C := RX2) (T := TX2) (N := 5) hx hb hts uwX2 hown hK hP 4 rfl rfl 2 (by decide) (hts _ wd_121) (fun _ h9 => h9) rfl dX2_add_29 ?_
    refine lv_dload_n hx hb dX2_add_32 rfl (lv_at hl 2 rfl) ?_
    refine va_dast hx hb hK hP hD hS 6 2 rfl rfl h.1 dX2_add_33 (fun H locs hP hD hS => ?_)
    have h := h.2
    obtain ⟨u4, eu4⟩ : ∃ z : gS, z = tB u3 0 ((sI u3 4).toNatClampNeg) p2 := ⟨_, rfl⟩
    have hP : va_P (dC, dI) vwCl (wX ad ca K u4) H := by rw [eu4, wX_a6]; exact hP
    have hD : va_D A (wX ad ca K u4) := by rw [eu4, wX_a6]; exact hD
    have h := h u4 eu4
    refine lv_aload_n hx hb dX2_add_34 rfl (lv_at hl 0 rfl) ?_
    refine lv_dup hx hb dX2_add_35 rfl ?_
    refine va_get (D := (dC, dI)) (ci := 2) (v := .int (sI u4 4)) (C := RX2) (T := TX2) (N := 5) hx hb hts uwX2 hown hK hP 4 rfl rfl 2 (by decide) (hts _ wd_121) (fun _ h9 => h9) rfl dX2_add_36 ?_
    refine lv_iconst (v := 1) hx hb dX2_add_39 (by decide) ?_
    refine lv_iadd hx hb dX2_add_40 ?_
    refine va_put (D := (dC, dI)) (ci := 2) (v := .int ((sI u4 4) + 1)) (ty := tyX2 2) (C := RX2) (T := TX2) (N := 5) hx hb hts uwX2 tyX2 tyX2_ok nmX2 hown hK hP hD hS 4 rfl rfl 2 (by decide) (hts _ wd_121) (fun _ h9 => h9) rfl (tyX2_ok 2 (by decide)) rfl rfl (Nat.le_of_ble_eq_true rfl) dX2_add_41 (fun H locs hP hD hS => ?_)
    obtain ⟨u5, eu5⟩ : ∃ z : gS, z = tI u4 4 ((sI u4 4) + 1) := ⟨_, rfl⟩
    have hP : va_P (dC, dI) vwCl (wX ad ca K u5) H := by rw [eu5, wX_f4_size]; exact hP
    have hD : va_D A (wX ad ca K u5) := by rw [eu5, wX_f4_size]; exact hD
    have h := h u5 eu5
    exact gr_v (w := wX ad ca K) (u := u5) hx hb hr hlocks h hP hK hD hS dX2_add_44
  · have h := h.2 c1
    exact gr_v (w := wX ad ca K) (u := u) hx hb hr hlocks h hP hK hD hS dX2_add_8

theorem dX2_removeAt_0 : decode prog_4_method_4_code 0 = .ok (.iload_n 1, 1) := by decide +kernel
theorem dX2_removeAt_1 : decode prog_4_method_4_code 1 = .ok (.ifCond .lt 11, 3) := by decide +kernel
theorem dX2_removeAt_4 : decode prog_4_method_4_code 4 = .ok (.iload_n 1, 1) := by decide +kernel
theorem dX2_removeAt_5 : decode prog_4_method_4_code 5 = .ok (.aload_n 0, 1) := by decide +kernel
theorem dX2_removeAt_6 : decode prog_4_method_4_code 6 = .ok (.getfield 21, 3) := by decide +kernel
theorem dX2_removeAt_9 : decode prog_4_method_4_code 9 = .ok (.if_icmp .lt 5, 3) := by decide +kernel
theorem dX2_removeAt_12 : decode prog_4_method_4_code 12 = .ok (.aconst_null, 1) := by decide +kernel
theorem dX2_removeAt_13 : decode prog_4_method_4_code 13 = .ok (.areturn, 1) := by decide +kernel
theorem dX2_removeAt_14 : decode prog_4_method_4_code 14 = .ok (.aload_n 0, 1) := by decide +kernel
theorem dX2_removeAt_15 : decode prog_4_method_4_code 15 = .ok (.getfield 11, 3) := by decide +kernel
theorem dX2_removeAt_18 : decode prog_4_method_4_code 18 = .ok (.iload_n 1, 1) := by decide +kernel
theorem dX2_removeAt_19 : decode prog_4_method_4_code 19 = .ok (.aaload, 1) := by decide +kernel
theorem dX2_removeAt_20 : decode prog_4_method_4_code 20 = .ok (.astore_n 2, 1) := by decide +kernel
theorem dX2_removeAt_21 : decode prog_4_method_4_code 21 = .ok (.iload_n 1, 1) := by decide +kernel
theorem dX2_removeAt_22 : decode prog_4_method_4_code 22 = .ok (.istore_n 3, 1) := by decide +kernel
theorem dX2_removeAt_23 : decode prog_4_method_4_code 23 = .ok (.iload_n 3, 1) := by decide +kernel
theorem dX2_removeAt_24 : decode prog_4_method_4_code 24 = .ok (.aload_n 0, 1) := by decide +kernel
theorem dX2_removeAt_25 : decode prog_4_method_4_code 25 = .ok (.getfield 21, 3) := by decide +kernel
theorem dX2_removeAt_28 : decode prog_4_method_4_code 28 = .ok (.iconst 1, 1) := by decide +kernel
theorem dX2_removeAt_29 : decode prog_4_method_4_code 29 = .ok (.isub, 1) := by decide +kernel
theorem dX2_removeAt_30 : decode prog_4_method_4_code 30 = .ok (.if_icmp .ge 37, 3) := by decide +kernel
theorem dX2_removeAt_33 : decode prog_4_method_4_code 33 = .ok (.aload_n 0, 1) := by decide +kernel
theorem dX2_removeAt_34 : decode prog_4_method_4_code 34 = .ok (.getfield 11, 3) := by decide +kernel
theorem dX2_removeAt_37 : decode prog_4_method_4_code 37 = .ok (.iload_n 3, 1) := by decide +kernel
theorem dX2_removeAt_38 : decode prog_4_method_4_code 38 = .ok (.aload_n 0, 1) := by decide +kernel
theorem dX2_removeAt_39 : decode prog_4_method_4_code 39 = .ok (.getfield 11, 3) := by decide +kernel
theorem dX2_removeAt_42 : decode prog_4_method_4_code 42 = .ok (.iload_n 3, 1) := by decide +kernel
theorem dX2_removeAt_43 : decode prog_4_method_4_code 43 = .ok (.iconst 1, 1) := by decide +kernel
theorem dX2_removeAt_44 : decode prog_4_method_4_code 44 = .ok (.iadd, 1) := by decide +kernel
theorem dX2_removeAt_45 : decode prog_4_method_4_code 45 = .ok (.aaload, 1) := by decide +kernel
theorem dX2_removeAt_46 : decode prog_4_method_4_code 46 = .ok (.aastore, 1) := by decide +kernel
theorem dX2_removeAt_47 : decode prog_4_method_4_code 47 = .ok (.aload_n 0, 1) := by decide +kernel
theorem dX2_removeAt_48 : decode prog_4_method_4_code 48 = .ok (.getfield 17, 3) := by decide +kernel
theorem dX2_removeAt_51 : decode prog_4_method_4_code 51 = .ok (.iload_n 3, 1) := by decide +kernel
theorem dX2_removeAt_52 : decode prog_4_method_4_code 52 = .ok (.aload_n 0, 1) := by decide +kernel
theorem dX2_removeAt_53 : decode prog_4_method_4_code 53 = .ok (.getfield 17, 3) := by decide +kernel
theorem dX2_removeAt_56 : decode prog_4_method_4_code 56 = .ok (.iload_n 3, 1) := by decide +kernel
theorem dX2_removeAt_57 : decode prog_4_method_4_code 57 = .ok (.iconst 1, 1) := by decide +kernel
theorem dX2_removeAt_58 : decode prog_4_method_4_code 58 = .ok (.iadd, 1) := by decide +kernel
theorem dX2_removeAt_59 : decode prog_4_method_4_code 59 = .ok (.daload, 1) := by decide +kernel
theorem dX2_removeAt_60 : decode prog_4_method_4_code 60 = .ok (.dastore, 1) := by decide +kernel
theorem dX2_removeAt_61 : decode prog_4_method_4_code 61 = .ok (.iinc 3 1, 3) := by decide +kernel
theorem dX2_removeAt_64 : decode prog_4_method_4_code 64 = .ok (.goto (-41), 3) := by decide +kernel
theorem dX2_removeAt_67 : decode prog_4_method_4_code 67 = .ok (.aload_n 0, 1) := by decide +kernel
theorem dX2_removeAt_68 : decode prog_4_method_4_code 68 = .ok (.dup, 1) := by decide +kernel
theorem dX2_removeAt_69 : decode prog_4_method_4_code 69 = .ok (.getfield 21, 3) := by decide +kernel
theorem dX2_removeAt_72 : decode prog_4_method_4_code 72 = .ok (.iconst 1, 1) := by decide +kernel
theorem dX2_removeAt_73 : decode prog_4_method_4_code 73 = .ok (.isub, 1) := by decide +kernel
theorem dX2_removeAt_74 : decode prog_4_method_4_code 74 = .ok (.putfield 21, 3) := by decide +kernel
theorem dX2_removeAt_77 : decode prog_4_method_4_code 77 = .ok (.aload_n 2, 1) := by decide +kernel
theorem dX2_removeAt_78 : decode prog_4_method_4_code 78 = .ok (.areturn, 1) := by decide +kernel
def wpX2_removeAt_23 (K : KX) (post : Option Nat → gS → Prop) : Nat → Int32 → Option Nat → Int32 → gS → Prop
  | 0 => fun _ _ _ _ => False
  | n + 1 => fun l1 l2 l3 u => ((((sI u 4) - 1) ≤ l3 → (∀ u5 : gS, u5 = tI u 4 ((sI u 4) - 1) → (post l2 u5))) ∧ (¬ ((sI u 4) - 1) ≤ l3 → (vp_in (l3 + 1) 4 ∧ (∀ r6 : Option Nat, r6 = sQ u 1 (l3 + 1).toNatClampNeg → ((∀ y9 : Nat, r6 = some y9 → y9 ∈ K.2.2.1) ∧ (vp_in l3 4 ∧ (∀ u8 : gS, u8 = tQ u 1 l3.toNatClampNeg r6 → (vp_in (l3 + 1) 4 ∧ (vp_in l3 4 ∧ (∀ u9 : gS, u9 = tB u8 0 l3.toNatClampNeg (sB u8 0 (l3 + 1).toNatClampNeg) → (∀ x10 : Int32, x10 = l3 + 1 → (wpX2_removeAt_23 K post n l1 l2 x10 u9))))))))))))

def wpX2_removeAt (K : KX) (post : Option Nat → gS → Prop) (u : gS) (p1 : Int32) : Prop :=
  ((p1 < 0 → (post none u)) ∧ (¬ p1 < 0 → (((p1 < (sI u 4) → (vp_in p1 4 ∧ (∀ r3 : Option Nat, r3 = sQ u 1 p1.toNatClampNeg → (∃ n23 : Nat, wpX2_removeAt_23 K post n23 p1 r3 p1 u)))) ∧ (¬ p1 < (sI u 4) → (post none u))))))

set_option maxHeartbeats 8000000 in
set_option maxRecDepth 100000 in
theorem wpX2_removeAt_23_ok {p : Program} {l : Launch} {e : Env} {s : State} {m : MethodId} {args : Array Value} {below : List Frame} {meth : Method} {c : Code} {dC : Nat → ClassId} {dI : Nat → Nat → Nat} {ad : Nat → Nat} {ca : Nat → ClassId} {K : KX} {A : Nat → Prop} {post : Option Nat → gS → Prop}   (hx : p.tables.exec = Jvm.exec) (hb : c.code = prog_4_method_4_code) (hr : meth.sig.returnType = (some (.object "WorkHall$Job"))) (hml : c.maxLocals = 4) (hown : s.vm.findClass RX2 = some m.cls) (hts : ∀ w ∈ gW, w.before args s = true) (hlocks : meth.locks = false) (hK : va_K (dC, dI) vwCl (xT ca) s) (hA : ∀ q, s.heap.size ≤ q → A q) (hE : xE A s s.heap) :
    ∀ (n : Nat) (l1 : Int32) (l2 : Option Nat) (l3 : Int32) (u : gS) (H : Heap) (locs : List Loc) (ls : Array Slot), wpX2_removeAt_23 K post n l1 l2 l3 u → va_P (dC, dI) vwCl (wX ad ca K u) H → va_D A (wX ad ca K u) → va_S A s.heap H locs → lv_has ls 4 [(0, .ref (ad 4)), (1, .int l1), (2, va_rf l2), (3, .int l3)] → W p l e (headSpec (gw ⟨"WorkHall$Line", "removeAt", "(I)LWorkHall$Job;"⟩ prog_4_method_4_code 4 (some (.object "WorkHall$Job"))) ({ frames := 1, cells := 0, slots := 0, locals := 40 } : Room)).room s m args below meth c H locs 0 0 (MQ below (va_Qq post (gAt (dC, dI) vwCl (xT ca) (wX ad ca K) (A)) (A)) args s 0 0 A) (F0 m 23 ls []) := by
  intro n
  induction n with
  | zero => exact fun _ _ _ _ _ _ _ h => h.elim
  | succ n ih =>
    intro l1 l2 l3 u H locs ls h hP hD hS hl
    refine lv_iload_n hx hb dX2_removeAt_23 rfl (lv_at hl 3 rfl) ?_
    refine lv_aload_n hx hb dX2_removeAt_24 rfl (lv_at hl 0 rfl) ?_
    refine va_get (D := (dC, dI)) (ci := 2) (v := .int (sI u 4)) (C := RX2) (T := TX2) (N := 5) hx hb hts uwX2 hown hK hP 4 rfl rfl 2 (by decide) (hts _ wd_121) (fun _ h9 => h9) rfl dX2_removeAt_25 ?_
    refine lv_iconst (v := 1) hx hb dX2_removeAt_28 (by decide) ?_
    refine lv_isub hx hb dX2_removeAt_29 ?_
    refine lv_icmp_ge (tgt := 67) hx hb dX2_removeAt_30 (by decide) (fun c4 => ?_) (fun c4 => ?_)
    · have h := h.1 c4
      refine lv_aload_n hx hb dX2_removeAt_67 rfl (lv_at hl 0 rfl) ?_
      refine lv_dup hx hb dX2_removeAt_68 rfl ?_
      refine va_get (D := (dC, dI)) (ci := 2) (v := .int (sI u 4)) (C := RX2) (T := TX2) (N := 5) hx hb hts uwX2 hown hK hP 4 rfl rfl 2 (by decide) (hts _ wd_121) (fun _ h9 => h9) rfl dX2_removeAt_69 ?_
      refine lv_iconst (v := 1) hx hb dX2_removeAt_72 (by decide) ?_
      refine lv_isub hx hb dX2_removeAt_73 ?_
      refine va_put (D := (dC, dI)) (ci := 2) (v := .int ((sI u 4) - 1)) (ty := tyX2 2) (C := RX2) (T := TX2) (N := 5) hx hb hts uwX2 tyX2 tyX2_ok nmX2 hown hK hP hD hS 4 rfl rfl 2 (by decide) (hts _ wd_121) (fun _ h9 => h9) rfl (tyX2_ok 2 (by decide)) rfl rfl (Nat.le_of_ble_eq_true rfl) dX2_removeAt_74 (fun H locs hP hD hS => ?_)
      obtain ⟨u5, eu5⟩ : ∃ z : gS, z = tI u 4 ((sI u 4) - 1) := ⟨_, rfl⟩
      have hP : va_P (dC, dI) vwCl (wX ad ca K u5) H := by rw [eu5, wX_f4_size]; exact hP
      have hD : va_D A (wX ad ca K u5) := by rw [eu5, wX_f4_size]; exact hD
      have h := h u5 eu5
      refine gq_aload_n (r := l2) hx hb dX2_removeAt_77 rfl (lv_at hl 2 rfl) ?_
      exact gr_q (w := wX ad ca K) (u := u5) (v := l2) hx hb hr hlocks h hP hK hD hS dX2_removeAt_78
    · have h := h.2 c4
      refine lv_aload_n hx hb dX2_removeAt_33 rfl (lv_at hl 0 rfl) ?_
      refine va_get (D := (dC, dI)) (ci := 2) (v := .ref (ad 5)) (C := RX2) (T := TX2) (N := 5) hx hb hts uwX2 hown hK hP 4 rfl rfl 0 (by decide) (hts _ wd_119) (fun _ h9 => h9) rfl dX2_removeAt_34 ?_
      refine lv_iload_n hx hb dX2_removeAt_37 rfl (lv_at hl 3 rfl) ?_
      refine lv_aload_n hx hb dX2_removeAt_38 rfl (lv_at hl 0 rfl) ?_
      refine va_get (D := (dC, dI)) (ci := 2) (v := .ref (ad 5)) (C := RX2) (T := TX2) (N := 5) hx hb hts uwX2 hown hK hP 4 rfl rfl 0 (by decide) (hts _ wd_119) (fun _ h9 => h9) rfl dX2_removeAt_39 ?_
      refine lv_iload_n hx hb dX2_removeAt_42 rfl (lv_at hl 3 rfl) ?_
      refine lv_iconst (v := 1) hx hb dX2_removeAt_43 (by decide) ?_
      refine lv_iadd hx hb dX2_removeAt_44 ?_
      refine va_aldq (C := RX5) hx hb hK hP 5 0 rfl rfl h.1 dX2_removeAt_45 ?_
      have h := h.2
      refine gq_top (fun r6 er6 => ?_)
      have h := h r6 er6
      obtain ⟨hy7, h⟩ := h
      refine gq_aast (v := r6) (r := (RX5, TX5, 9)) hx hb hK hP hD hS 5 0 5 rfl rfl (fun y9 e9 => by obtain ⟨k9, hk9⟩ := xJ_get (hy7 y9 e9); exact ⟨k9, _, hk9⟩) rfl h.1 dX2_removeAt_46 (fun H locs hP hD hS => ?_)
      have h := h.2
      obtain ⟨u8, eu8⟩ : ∃ z : gS, z = tQ u 1 l3.toNatClampNeg r6 := ⟨_, rfl⟩
      have hP : va_P (dC, dI) vwCl (wX ad ca K u8) H := by rw [eu8, wX_a5]; exact hP
      have hD : va_D A (wX ad ca K u8) := by rw [eu8, wX_a5]; exact hD
      have h := h u8 eu8
      refine lv_aload_n hx hb dX2_removeAt_47 rfl (lv_at hl 0 rfl) ?_
      refine va_get (D := (dC, dI)) (ci := 2) (v := .ref (ad 6)) (C := RX2) (T := TX2) (N := 5) hx hb hts uwX2 hown hK hP 4 rfl rfl 1 (by decide) (hts _ wd_120) (fun _ h9 => h9) rfl dX2_removeAt_48 ?_
      refine lv_iload_n hx hb dX2_removeAt_51 rfl (lv_at hl 3 rfl) ?_
      refine lv_aload_n hx hb dX2_removeAt_52 rfl (lv_at hl 0 rfl) ?_
      refine va_get (D := (dC, dI)) (ci := 2) (v := .ref (ad 6)) (C := RX2) (T := TX2) (N := 5) hx hb hts uwX2 hown hK hP 4 rfl rfl 1 (by decide) (hts _ wd_120) (fun _ h9 => h9) rfl dX2_removeAt_53 ?_
      refine lv_iload_n hx hb dX2_removeAt_56 rfl (lv_at hl 3 rfl) ?_
      refine lv_iconst (v := 1) hx hb dX2_removeAt_57 (by decide) ?_
      refine lv_iadd hx hb dX2_removeAt_58 ?_
      refine va_dald hx hb hK hP 6 2 rfl rfl h.1 dX2_removeAt_59 ?_
      have h := h.2
      refine va_dast hx hb hK hP hD hS 6 2 rfl rfl h.1 dX2_removeAt_60 (fun H locs hP hD hS => ?_)
      have h := h.2
      obtain ⟨u9, eu9⟩ : ∃ z : gS, z = tB u8 0 l3.toNatClampNeg (sB u8 0 (l3 + 1).toNatClampNeg) := ⟨_, rfl⟩
      have hP : va_P (dC, dI) vwCl (wX ad ca K u9) H := by rw [eu9, wX_a6]; exact hP
      have hD : va_D A (wX ad ca K u9) := by rw [eu9, wX_a6]; exact hD
      have h := h u9 eu9
      obtain ⟨x10, ex10⟩ : ∃ y : Int32, y = l3 + 1 := ⟨_, rfl⟩
      have h := h x10 ex10
      refine lv_iinc (v := x10) (lv' := [(3, .int x10), (0, .ref (ad 4)), (1, .int l1), (2, va_rf l2)]) hx hb dX2_removeAt_61 hl (k := 3) rfl (by rw [ex10]; rfl) (by decide) (by cases l2 <;> rfl) (fun ls hl => ?_)
      refine lv_goto (tgt := 23) hx hb dX2_removeAt_64 (by decide) ?_
      exact ih l1 l2 x10 u9 _ _ _ h hP hD hS (lv_sub hl [1, 2, 3, 0] rfl)

set_option maxHeartbeats 8000000 in
set_option maxRecDepth 100000 in
theorem cX2_removeAt (l : Launch) (dC : Nat → ClassId) (dI : Nat → Nat → Nat) (ad : Nat → Nat) (ca : Nat → ClassId) (K : KX) (sz : Nat) (u : gS) (p1 : Int32) (post : Option Nat → gS → Prop)  (h : wpX2_removeAt K post u p1) : Met l ⟨"WorkHall$Line", "removeAt", "(I)LWorkHall$Job;"⟩ (gw ⟨"WorkHall$Line", "removeAt", "(I)LWorkHall$Job;"⟩ prog_4_method_4_code 4 (some (.object "WorkHall$Job"))) ({ frames := 1, cells := 0, slots := 0, locals := 40 } : Room) (va_Pc [.ref (ad 4), .int p1] (gB (dC, dI) vwCl (xT ca) xE (wX ad ca K u) sz)) (va_Qq post (gAt (dC, dI) vwCl (xT ca) (wX ad ca K) (va_A (wX ad ca K u) sz)) (va_A (wX ad ca K u) sz)) 0 0 (va_A (wX ad ca K u) sz) := by
  refine Met.ofW (cc := prog_4_method_4_code) (maxL := 4) (ret := (some (.object "WorkHall$Job"))) (by decide) rfl ?_
  intro p e s m args below meth c s₁ B hml hv
  obtain ⟨rfl, hsz, hP, hK, hD0, hE⟩ := hv
  have hx := B.exec
  have hb := B.bytes
  have hr := B.returns
  have hts : ∀ w ∈ gW, w.before _ s = true := fun w h9 => atoms_spec (ws := (gw ⟨"WorkHall$Line", "removeAt", "(I)LWorkHall$Job;"⟩ prog_4_method_4_code 4 (some (.object "WorkHall$Job")))) B.pre w (List.mem_cons_of_mem _ h9)
  have hown : s.vm.findClass RX2 = some m.cls := findClass_of_methodNamed B.named
  have hlocks := B.notSynchronized
  subst hsz
  have hD := hD0.self (sz := s.heap.size)
  generalize hAe : va_A (wX ad ca K u) s.heap.size = A at hD hE ⊢
  have hA : ∀ q : Nat, s.heap.size ≤ q → A q := fun q h => by rw [← hAe]; exact Or.inr h
  obtain ⟨H, hHe⟩ : ∃ z : Heap, z = s.heap := ⟨_, rfl⟩
  rw [← hHe]
  have hS : va_S A s.heap H [] := by rw [hHe]; exact va_S.rf
  have hP : va_P (dC, dI) vwCl (wX ad ca K u) H := by rw [hHe]; exact hP
  have hl := lv_entry ([.ref (ad 4), .int p1]) (n := 4) (Nat.le_of_ble_eq_true rfl)
  rw [lg_entry_eq]
  generalize (lg_sl ([.ref (ad 4), .int p1]) ++ List.replicate (4 - (lg_sl ([.ref (ad 4), .int p1])).length) Slot.unset).toArray = ls at hl ⊢
  have hl : lv_has ls 4 [(0, .ref (ad 4)), (1, .int p1)] := hl
  clear hAe
  refine lv_iload_n hx hb dX2_removeAt_0 rfl (lv_at hl 1 rfl) ?_
  refine lv_if_lt (tgt := 12) hx hb dX2_removeAt_1 (by decide) (fun c1 => ?_) (fun c1 => ?_)
  · have h := h.1 c1
    refine lv_null hx hb dX2_removeAt_12 ?_
    exact gr_q (w := wX ad ca K) (u := u) (v := none) hx hb hr hlocks h hP hK hD hS dX2_removeAt_13
  · have h := h.2 c1
    refine lv_iload_n hx hb dX2_removeAt_4 rfl (lv_at hl 1 rfl) ?_
    refine lv_aload_n hx hb dX2_removeAt_5 rfl (lv_at hl 0 rfl) ?_
    refine va_get (D := (dC, dI)) (ci := 2) (v := .int (sI u 4)) (C := RX2) (T := TX2) (N := 5) hx hb hts uwX2 hown hK hP 4 rfl rfl 2 (by decide) (hts _ wd_121) (fun _ h9 => h9) rfl dX2_removeAt_6 ?_
    refine lv_icmp_lt (tgt := 14) hx hb dX2_removeAt_9 (by decide) (fun c2 => ?_) (fun c2 => ?_)
    · have h := h.1 c2
      refine lv_aload_n hx hb dX2_removeAt_14 rfl (lv_at hl 0 rfl) ?_
      refine va_get (D := (dC, dI)) (ci := 2) (v := .ref (ad 5)) (C := RX2) (T := TX2) (N := 5) hx hb hts uwX2 hown hK hP 4 rfl rfl 0 (by decide) (hts _ wd_119) (fun _ h9 => h9) rfl dX2_removeAt_15 ?_
      refine lv_iload_n hx hb dX2_removeAt_18 rfl (lv_at hl 1 rfl) ?_
      refine va_aldq (C := RX5) hx hb hK hP 5 0 rfl rfl h.1 dX2_removeAt_19 ?_
      have h := h.2
      refine gq_top (fun r3 er3 => ?_)
      have h := h r3 er3
      refine gq_astore_n (r := r3) (lv' := [(2, va_rf r3), (0, .ref (ad 4)), (1, .int p1)]) hx hb dX2_removeAt_20 rfl hl (by decide) rfl (fun ls hl => ?_)
      refine lv_iload_n hx hb dX2_removeAt_21 rfl (lv_at hl 2 rfl) ?_
      refine lv_istore_n (lv' := [(3, .int p1), (2, va_rf r3), (0, .ref (ad 4)), (1, .int p1)]) hx hb dX2_removeAt_22 rfl hl (by decide) (by cases r3 <;> rfl) (fun ls hl => ?_)
      obtain ⟨n23, h⟩ := h
      exact wpX2_removeAt_23_ok hx hb hr hml hown hts hlocks hK hA hE n23 p1 r3 p1 u _ _ _ h hP hD hS (lv_sub hl [2, 3, 1, 0] rfl)
    · have h := h.2 c2
      refine lv_null hx hb dX2_removeAt_12 ?_
      exact gr_q (w := wX ad ca K) (u := u) (v := none) hx hb hr hlocks h hP hK hD hS dX2_removeAt_13

theorem dX2_takeFirst_0 : decode prog_4_method_5_code 0 = .ok (.aload_n 0, 1) := by decide +kernel
theorem dX2_takeFirst_1 : decode prog_4_method_5_code 1 = .ok (.getfield 21, 3) := by decide +kernel
theorem dX2_takeFirst_4 : decode prog_4_method_5_code 4 = .ok (.ifCond .ne 5, 3) := by decide +kernel
theorem dX2_takeFirst_7 : decode prog_4_method_5_code 7 = .ok (.aconst_null, 1) := by decide +kernel
theorem dX2_takeFirst_8 : decode prog_4_method_5_code 8 = .ok (.areturn, 1) := by decide +kernel
theorem dX2_takeFirst_9 : decode prog_4_method_5_code 9 = .ok (.aload_n 0, 1) := by decide +kernel
theorem dX2_takeFirst_10 : decode prog_4_method_5_code 10 = .ok (.dup, 1) := by decide +kernel
theorem dX2_takeFirst_11 : decode prog_4_method_5_code 11 = .ok (.getfield 28, 3) := by decide +kernel
theorem dX2_takeFirst_14 : decode prog_4_method_5_code 14 = .ok (.dload_n 1, 1) := by decide +kernel
theorem dX2_takeFirst_15 : decode prog_4_method_5_code 15 = .ok (.aload_n 0, 1) := by decide +kernel
theorem dX2_takeFirst_16 : decode prog_4_method_5_code 16 = .ok (.getfield 17, 3) := by decide +kernel
theorem dX2_takeFirst_19 : decode prog_4_method_5_code 19 = .ok (.iconst 0, 1) := by decide +kernel
theorem dX2_takeFirst_20 : decode prog_4_method_5_code 20 = .ok (.daload, 1) := by decide +kernel
theorem dX2_takeFirst_21 : decode prog_4_method_5_code 21 = .ok (.dsub, 1) := by decide +kernel
theorem dX2_takeFirst_22 : decode prog_4_method_5_code 22 = .ok (.dadd, 1) := by decide +kernel
theorem dX2_takeFirst_23 : decode prog_4_method_5_code 23 = .ok (.putfield 28, 3) := by decide +kernel
theorem dX2_takeFirst_26 : decode prog_4_method_5_code 26 = .ok (.aload_n 0, 1) := by decide +kernel
theorem dX2_takeFirst_27 : decode prog_4_method_5_code 27 = .ok (.dup, 1) := by decide +kernel
theorem dX2_takeFirst_28 : decode prog_4_method_5_code 28 = .ok (.getfield 25, 3) := by decide +kernel
theorem dX2_takeFirst_31 : decode prog_4_method_5_code 31 = .ok (.iconst 1, 1) := by decide +kernel
theorem dX2_takeFirst_32 : decode prog_4_method_5_code 32 = .ok (.iadd, 1) := by decide +kernel
theorem dX2_takeFirst_33 : decode prog_4_method_5_code 33 = .ok (.putfield 25, 3) := by decide +kernel
theorem dX2_takeFirst_36 : decode prog_4_method_5_code 36 = .ok (.aload_n 0, 1) := by decide +kernel
theorem dX2_takeFirst_37 : decode prog_4_method_5_code 37 = .ok (.iconst 0, 1) := by decide +kernel
theorem dX2_takeFirst_38 : decode prog_4_method_5_code 38 = .ok (.invokevirtual 35, 3) := by decide +kernel
theorem dX2_takeFirst_41 : decode prog_4_method_5_code 41 = .ok (.areturn, 1) := by decide +kernel
def wpX2_takeFirst (K : KX) (post : Option Nat → gS → Prop) (u : gS) (p1 : UInt64) : Prop :=
  ((¬ (sI u 4) = 0 → (vp_in 0 4 ∧ (vf_n64 (FP.dsub p1 (sB u 0 (0 : Int32).toNatClampNeg)) ∧ (vf_n64 (FP.dadd (sD u 1) (FP.dsub p1 (sB u 0 (0 : Int32).toNatClampNeg))) ∧ (∀ u2 : gS, u2 = tD u 1 (FP.dadd (sD u 1) (FP.dsub p1 (sB u 0 (0 : Int32).toNatClampNeg))) → (∀ u3 : gS, u3 = tI u2 5 ((sI u2 5) + 1) → (wpX2_removeAt K (fun (r4 : Option Nat) (u5 : gS) => post r4 u5) u3 0))))))) ∧ ((sI u 4) = 0 → (post none u)))

set_option maxHeartbeats 8000000 in
set_option maxRecDepth 100000 in
theorem cX2_takeFirst (l : Launch) (dC : Nat → ClassId) (dI : Nat → Nat → Nat) (ad : Nat → Nat) (ca : Nat → ClassId) (K : KX) (sz : Nat) (u : gS) (p1 : UInt64) (post : Option Nat → gS → Prop)  (h : wpX2_takeFirst K post u p1) : Met l ⟨"WorkHall$Line", "takeFirst", "(D)LWorkHall$Job;"⟩ (gw ⟨"WorkHall$Line", "takeFirst", "(D)LWorkHall$Job;"⟩ prog_4_method_5_code 3 (some (.object "WorkHall$Job"))) ({ frames := 2, cells := 0, slots := 0, locals := 80 } : Room) (va_Pc [.ref (ad 4), .double p1] (gB (dC, dI) vwCl (xT ca) xE (wX ad ca K u) sz)) (va_Qq post (gAt (dC, dI) vwCl (xT ca) (wX ad ca K) (va_A (wX ad ca K u) sz)) (va_A (wX ad ca K u) sz)) 0 0 (va_A (wX ad ca K u) sz) := by
  refine Met.ofW (cc := prog_4_method_5_code) (maxL := 3) (ret := (some (.object "WorkHall$Job"))) (by decide) rfl ?_
  intro p e s m args below meth c s₁ B hml hv
  obtain ⟨rfl, hsz, hP, hK, hD0, hE⟩ := hv
  have hx := B.exec
  have hb := B.bytes
  have hr := B.returns
  have hts : ∀ w ∈ gW, w.before _ s = true := fun w h9 => atoms_spec (ws := (gw ⟨"WorkHall$Line", "takeFirst", "(D)LWorkHall$Job;"⟩ prog_4_method_5_code 3 (some (.object "WorkHall$Job")))) B.pre w (List.mem_cons_of_mem _ h9)
  have hown : s.vm.findClass RX2 = some m.cls := findClass_of_methodNamed B.named
  have hlocks := B.notSynchronized
  subst hsz
  have hD := hD0.self (sz := s.heap.size)
  generalize hAe : va_A (wX ad ca K u) s.heap.size = A at hD hE ⊢
  have hA : ∀ q : Nat, s.heap.size ≤ q → A q := fun q h => by rw [← hAe]; exact Or.inr h
  obtain ⟨H, hHe⟩ : ∃ z : Heap, z = s.heap := ⟨_, rfl⟩
  rw [← hHe]
  have hS : va_S A s.heap H [] := by rw [hHe]; exact va_S.rf
  have hP : va_P (dC, dI) vwCl (wX ad ca K u) H := by rw [hHe]; exact hP
  have hl := lv_entry ([.ref (ad 4), .double p1]) (n := 3) (Nat.le_of_ble_eq_true rfl)
  rw [lg_entry_eq]
  generalize (lg_sl ([.ref (ad 4), .double p1]) ++ List.replicate (3 - (lg_sl ([.ref (ad 4), .double p1])).length) Slot.unset).toArray = ls at hl ⊢
  have hl : lv_has ls 3 [(0, .ref (ad 4)), (1, .double p1)] := hl
  clear hAe
  refine lv_aload_n hx hb dX2_takeFirst_0 rfl (lv_at hl 0 rfl) ?_
  refine va_get (D := (dC, dI)) (ci := 2) (v := .int (sI u 4)) (C := RX2) (T := TX2) (N := 5) hx hb hts uwX2 hown hK hP 4 rfl rfl 2 (by decide) (hts _ wd_121) (fun _ h9 => h9) rfl dX2_takeFirst_1 ?_
  refine lv_if_ne (tgt := 9) hx hb dX2_takeFirst_4 (by decide) (fun c1 => ?_) (fun c1 => ?_)
  · have h := h.1 c1
    refine lv_aload_n hx hb dX2_takeFirst_9 rfl (lv_at hl 0 rfl) ?_
    refine lv_dup hx hb dX2_takeFirst_10 rfl ?_
    refine va_get (D := (dC, dI)) (ci := 2) (v := .double (sD u 1)) (C := RX2) (T := TX2) (N := 5) hx hb hts uwX2 hown hK hP 4 rfl rfl 4 (by decide) (hts _ wd_125) (fun _ h9 => h9) rfl dX2_takeFirst_11 ?_
    refine lv_dload_n hx hb dX2_takeFirst_14 rfl (lv_at hl 1 rfl) ?_
    refine lv_aload_n hx hb dX2_takeFirst_15 rfl (lv_at hl 0 rfl) ?_
    refine va_get (D := (dC, dI)) (ci := 2) (v := .ref (ad 6)) (C := RX2) (T := TX2) (N := 5) hx hb hts uwX2 hown hK hP 4 rfl rfl 1 (by decide) (hts _ wd_120) (fun _ h9 => h9) rfl dX2_takeFirst_16 ?_
    refine lv_iconst (v := 0) hx hb dX2_takeFirst_19 (by decide) ?_
    refine va_dald hx hb hK hP 6 2 rfl rfl h.1 dX2_takeFirst_20 ?_
    have h := h.2
    refine lv_dsub hx hb dX2_takeFirst_21 h.1 ?_
    have h := h.2
    refine lv_dadd hx hb dX2_takeFirst_22 h.1 ?_
    have h := h.2
    refine va_put (D := (dC, dI)) (ci := 2) (v := .double (FP.dadd (sD u 1) (FP.dsub p1 (sB u 0 (0 : Int32).toNatClampNeg)))) (ty := tyX2 4) (C := RX2) (T := TX2) (N := 5) hx hb hts uwX2 tyX2 tyX2_ok nmX2 hown hK hP hD hS 4 rfl rfl 4 (by decide) (hts _ wd_125) (fun _ h9 => h9) rfl (tyX2_ok 4 (by decide)) rfl rfl (Nat.le_of_ble_eq_true rfl) dX2_takeFirst_23 (fun H locs hP hD hS => ?_)
    obtain ⟨u2, eu2⟩ : ∃ z : gS, z = tD u 1 (FP.dadd (sD u 1) (FP.dsub p1 (sB u 0 (0 : Int32).toNatClampNeg))) := ⟨_, rfl⟩
    have hP : va_P (dC, dI) vwCl (wX ad ca K u2) H := by rw [eu2, wX_f4_waited]; exact hP
    have hD : va_D A (wX ad ca K u2) := by rw [eu2, wX_f4_waited]; exact hD
    have h := h u2 eu2
    refine lv_aload_n hx hb dX2_takeFirst_26 rfl (lv_at hl 0 rfl) ?_
    refine lv_dup hx hb dX2_takeFirst_27 rfl ?_
    refine va_get (D := (dC, dI)) (ci := 2) (v := .int (sI u2 5)) (C := RX2) (T := TX2) (N := 5) hx hb hts uwX2 hown hK hP 4 rfl rfl 3 (by decide) (hts _ wd_123) (fun _ h9 => h9) rfl dX2_takeFirst_28 ?_
    refine lv_iconst (v := 1) hx hb dX2_takeFirst_31 (by decide) ?_
    refine lv_iadd hx hb dX2_takeFirst_32 ?_
    refine va_put (D := (dC, dI)) (ci := 2) (v := .int ((sI u2 5) + 1)) (ty := tyX2 3) (C := RX2) (T := TX2) (N := 5) hx hb hts uwX2 tyX2 tyX2_ok nmX2 hown hK hP hD hS 4 rfl rfl 3 (by decide) (hts _ wd_123) (fun _ h9 => h9) rfl (tyX2_ok 3 (by decide)) rfl rfl (Nat.le_of_ble_eq_true rfl) dX2_takeFirst_33 (fun H locs hP hD hS => ?_)
    obtain ⟨u3, eu3⟩ : ∃ z : gS, z = tI u2 5 ((sI u2 5) + 1) := ⟨_, rfl⟩
    have hP : va_P (dC, dI) vwCl (wX ad ca K u3) H := by rw [eu3, wX_f4_taken]; exact hP
    have hD : va_D A (wX ad ca K u3) := by rw [eu3, wX_f4_taken]; exact hD
    have h := h u3 eu3
    refine lv_aload_n hx hb dX2_takeFirst_36 rfl (lv_at hl 0 rfl) ?_
    refine lv_iconst (v := 0) hx hb dX2_takeFirst_37 (by decide) ?_
    refine gc_q (w := wX ad ca K) (u := u3) (va_runV (As := [.int 0]) (rest := []) ⟨hx, hb, hml, hown, hts⟩ (cX2_removeAt l dC dI ad ca K H.size u3 0 _ h) (cwV 1 hts (gG_V wd_516 wd_424 wd_425 wd_49 wd_426) rfl rfl rfl (by decide +kernel) ⟨Nat.le_of_ble_eq_true rfl, Nat.le_of_ble_eq_true rfl⟩) ⟨gB_blind xE_ok, va_recv hK hP (ci := 2) (q0 := 4) rfl rfl, gB_pre xE_ok hP hK hD hE hS hA⟩ rfl rfl hl.1 rfl (lv_room (Nat.le_of_ble_eq_true rfl)) dX2_takeFirst_38 ⟨Nat.le_of_ble_eq_true rfl, Nat.le_of_ble_eq_true rfl⟩) hD hS hA (fun r4 u5 H locs h hP hD hS => ?_)
    exact gr_q (w := wX ad ca K) (u := u5) (v := r4) hx hb hr hlocks h hP hK hD hS dX2_takeFirst_41
  · have h := h.2 c1
    refine lv_null hx hb dX2_takeFirst_7 ?_
    exact gr_q (w := wX ad ca K) (u := u) (v := none) hx hb hr hlocks h hP hK hD hS dX2_takeFirst_8

theorem dX2_cancelAll_0 : decode prog_4_method_6_code 0 = .ok (.aload_n 0, 1) := by decide +kernel
theorem dX2_cancelAll_1 : decode prog_4_method_6_code 1 = .ok (.getfield 21, 3) := by decide +kernel
theorem dX2_cancelAll_4 : decode prog_4_method_6_code 4 = .ok (.istore_n 1, 1) := by decide +kernel
theorem dX2_cancelAll_5 : decode prog_4_method_6_code 5 = .ok (.iconst 0, 1) := by decide +kernel
theorem dX2_cancelAll_6 : decode prog_4_method_6_code 6 = .ok (.istore_n 2, 1) := by decide +kernel
theorem dX2_cancelAll_7 : decode prog_4_method_6_code 7 = .ok (.iload_n 2, 1) := by decide +kernel
theorem dX2_cancelAll_8 : decode prog_4_method_6_code 8 = .ok (.aload_n 0, 1) := by decide +kernel
theorem dX2_cancelAll_9 : decode prog_4_method_6_code 9 = .ok (.getfield 21, 3) := by decide +kernel
theorem dX2_cancelAll_12 : decode prog_4_method_6_code 12 = .ok (.if_icmp .ge 19, 3) := by decide +kernel
theorem dX2_cancelAll_15 : decode prog_4_method_6_code 15 = .ok (.aload_n 0, 1) := by decide +kernel
theorem dX2_cancelAll_16 : decode prog_4_method_6_code 16 = .ok (.getfield 11, 3) := by decide +kernel
theorem dX2_cancelAll_19 : decode prog_4_method_6_code 19 = .ok (.iload_n 2, 1) := by decide +kernel
theorem dX2_cancelAll_20 : decode prog_4_method_6_code 20 = .ok (.aaload, 1) := by decide +kernel
theorem dX2_cancelAll_21 : decode prog_4_method_6_code 21 = .ok (.iconst 5, 1) := by decide +kernel
theorem dX2_cancelAll_22 : decode prog_4_method_6_code 22 = .ok (.putfield 32, 3) := by decide +kernel
theorem dX2_cancelAll_25 : decode prog_4_method_6_code 25 = .ok (.iinc 2 1, 3) := by decide +kernel
theorem dX2_cancelAll_28 : decode prog_4_method_6_code 28 = .ok (.goto (-21), 3) := by decide +kernel
theorem dX2_cancelAll_31 : decode prog_4_method_6_code 31 = .ok (.aload_n 0, 1) := by decide +kernel
theorem dX2_cancelAll_32 : decode prog_4_method_6_code 32 = .ok (.iconst 0, 1) := by decide +kernel
theorem dX2_cancelAll_33 : decode prog_4_method_6_code 33 = .ok (.putfield 21, 3) := by decide +kernel
theorem dX2_cancelAll_36 : decode prog_4_method_6_code 36 = .ok (.iload_n 1, 1) := by decide +kernel
theorem dX2_cancelAll_37 : decode prog_4_method_6_code 37 = .ok (.ireturn, 1) := by decide +kernel
def wpX2_cancelAll_7 (K : KX) (post : Int32 → gS → Prop) : Nat → Int32 → Int32 → gS → Prop
  | 0 => fun _ _ _ => False
  | n + 1 => fun l1 l2 u => (((sI u 4) ≤ l2 → (∀ u3 : gS, u3 = tI u 4 0 → (post l1 u3))) ∧ (¬ (sI u 4) ≤ l2 → (vp_in l2 4 ∧ (∀ r4 : Option Nat, r4 = sQ u 1 l2.toNatClampNeg → (∃ y5 : Nat, r4 = some y5 ∧ y5 ∈ K.2.2.1 ∧ (∀ u7 : gS, u7 = tA u 0 y5 5 → (∀ x8 : Int32, x8 = l2 + 1 → (wpX2_cancelAll_7 K post n l1 x8 u7))))))))

def wpX2_cancelAll (K : KX) (post : Int32 → gS → Prop) (u : gS)  : Prop :=
  ∀ x1 : Int32, x1 = sI u 4 → (∃ n7 : Nat, wpX2_cancelAll_7 K post n7 x1 0 u)

set_option maxHeartbeats 8000000 in
set_option maxRecDepth 100000 in
theorem wpX2_cancelAll_7_ok {p : Program} {l : Launch} {e : Env} {s : State} {m : MethodId} {args : Array Value} {below : List Frame} {meth : Method} {c : Code} {dC : Nat → ClassId} {dI : Nat → Nat → Nat} {ad : Nat → Nat} {ca : Nat → ClassId} {K : KX} {A : Nat → Prop} {post : Int32 → gS → Prop}   (hx : p.tables.exec = Jvm.exec) (hb : c.code = prog_4_method_6_code) (hr : meth.sig.returnType = (some .int)) (hml : c.maxLocals = 3) (hown : s.vm.findClass RX2 = some m.cls) (hts : ∀ w ∈ gW, w.before args s = true) (hlocks : meth.locks = false) (hK : va_K (dC, dI) vwCl (xT ca) s) (hA : ∀ q, s.heap.size ≤ q → A q) (hE : xE A s s.heap) :
    ∀ (n : Nat) (l1 : Int32) (l2 : Int32) (u : gS) (H : Heap) (locs : List Loc) (ls : Array Slot), wpX2_cancelAll_7 K post n l1 l2 u → va_P (dC, dI) vwCl (wX ad ca K u) H → va_D A (wX ad ca K u) → va_S A s.heap H locs → lv_has ls 3 [(0, .ref (ad 4)), (1, .int l1), (2, .int l2)] → W p l e (headSpec (gw ⟨"WorkHall$Line", "cancelAll", "()I"⟩ prog_4_method_6_code 3 (some .int)) ({ frames := 1, cells := 0, slots := 0, locals := 40 } : Room)).room s m args below meth c H locs 0 0 (MQ below (va_Qi post (gAt (dC, dI) vwCl (xT ca) (wX ad ca K) (A)) (A)) args s 0 0 A) (F0 m 7 ls []) := by
  intro n
  induction n with
  | zero => exact fun _ _ _ _ _ _ h => h.elim
  | succ n ih =>
    intro l1 l2 u H locs ls h hP hD hS hl
    refine lv_iload_n hx hb dX2_cancelAll_7 rfl (lv_at hl 2 rfl) ?_
    refine lv_aload_n hx hb dX2_cancelAll_8 rfl (lv_at hl 0 rfl) ?_
    refine va_get (D := (dC, dI)) (ci := 2) (v := .int (sI u 4)) (C := RX2) (T := TX2) (N := 5) hx hb hts uwX2 hown hK hP 4 rfl rfl 2 (by decide) (hts _ wd_121) (fun _ h9 => h9) rfl dX2_cancelAll_9 ?_
    refine lv_icmp_ge (tgt := 31) hx hb dX2_cancelAll_12 (by decide) (fun c2 => ?_) (fun c2 => ?_)
    · have h := h.1 c2
      refine lv_aload_n hx hb dX2_cancelAll_31 rfl (lv_at hl 0 rfl) ?_
      refine lv_iconst (v := 0) hx hb dX2_cancelAll_32 (by decide) ?_
      refine va_put (D := (dC, dI)) (ci := 2) (v := .int 0) (ty := tyX2 2) (C := RX2) (T := TX2) (N := 5) hx hb hts uwX2 tyX2 tyX2_ok nmX2 hown hK hP hD hS 4 rfl rfl 2 (by decide) (hts _ wd_121) (fun _ h9 => h9) rfl (tyX2_ok 2 (by decide)) rfl rfl (Nat.le_of_ble_eq_true rfl) dX2_cancelAll_33 (fun H locs hP hD hS => ?_)
      obtain ⟨u3, eu3⟩ : ∃ z : gS, z = tI u 4 0 := ⟨_, rfl⟩
      have hP : va_P (dC, dI) vwCl (wX ad ca K u3) H := by rw [eu3, wX_f4_size]; exact hP
      have hD : va_D A (wX ad ca K u3) := by rw [eu3, wX_f4_size]; exact hD
      have h := h u3 eu3
      refine lv_iload_n hx hb dX2_cancelAll_36 rfl (lv_at hl 1 rfl) ?_
      exact gr_i (w := wX ad ca K) (u := u3) hx hb hr hlocks h hP hK hD hS dX2_cancelAll_37
    · have h := h.2 c2
      refine lv_aload_n hx hb dX2_cancelAll_15 rfl (lv_at hl 0 rfl) ?_
      refine va_get (D := (dC, dI)) (ci := 2) (v := .ref (ad 5)) (C := RX2) (T := TX2) (N := 5) hx hb hts uwX2 hown hK hP 4 rfl rfl 0 (by decide) (hts _ wd_119) (fun _ h9 => h9) rfl dX2_cancelAll_16 ?_
      refine lv_iload_n hx hb dX2_cancelAll_19 rfl (lv_at hl 2 rfl) ?_
      refine va_aldq (C := RX5) hx hb hK hP 5 0 rfl rfl h.1 dX2_cancelAll_20 ?_
      have h := h.2
      refine gq_top (fun r4 er4 => ?_)
      have h := h r4 er4
      refine lv_iconst (v := 5) hx hb dX2_cancelAll_21 (by decide) ?_
      obtain ⟨y5, rfl, hy6, h⟩ := h
      obtain ⟨k9, hk9⟩ := xJ_get hy6
      have e9 := xJ_state (v := 5) hD hy6 hk9
      refine va_put (D := (dC, dI)) (ci := 5) (v := .int 5) (ty := tyX5 5) (C := RX5) (T := TX5) (N := 9) hx hb hts uwX5 tyX5 tyX5_ok nmX5 hown hK hP hD hS k9 hk9 rfl 5 (by decide) (hts _ wd_328) (fun _ h9 => h9) rfl (tyX5_ok 5 (by decide)) rfl rfl (Nat.le_of_ble_eq_true rfl) dX2_cancelAll_22 (fun H locs hP hD hS => ?_)
      obtain ⟨u7, eu7⟩ : ∃ z : gS, z = tA u 0 y5 5 := ⟨_, rfl⟩
      have hP : va_P (dC, dI) vwCl (wX ad ca K u7) H := by rw [eu7, ← e9]; exact hP
      have hD : va_D A (wX ad ca K u7) := by rw [eu7, ← e9]; exact hD
      have h := h u7 eu7
      obtain ⟨x8, ex8⟩ : ∃ y : Int32, y = l2 + 1 := ⟨_, rfl⟩
      have h := h x8 ex8
      refine lv_iinc (v := x8) (lv' := [(2, .int x8), (0, .ref (ad 4)), (1, .int l1)]) hx hb dX2_cancelAll_25 hl (k := 2) rfl (by rw [ex8]; rfl) (by decide) rfl (fun ls hl => ?_)
      refine lv_goto (tgt := 7) hx hb dX2_cancelAll_28 (by decide) ?_
      exact ih l1 x8 u7 _ _ _ h hP hD hS (lv_sub hl [1, 2, 0] rfl)

set_option maxHeartbeats 8000000 in
set_option maxRecDepth 100000 in
theorem cX2_cancelAll (l : Launch) (dC : Nat → ClassId) (dI : Nat → Nat → Nat) (ad : Nat → Nat) (ca : Nat → ClassId) (K : KX) (sz : Nat) (u : gS)  (post : Int32 → gS → Prop)  (h : wpX2_cancelAll K post u ) : Met l ⟨"WorkHall$Line", "cancelAll", "()I"⟩ (gw ⟨"WorkHall$Line", "cancelAll", "()I"⟩ prog_4_method_6_code 3 (some .int)) ({ frames := 1, cells := 0, slots := 0, locals := 40 } : Room) (va_Pc [.ref (ad 4)] (gB (dC, dI) vwCl (xT ca) xE (wX ad ca K u) sz)) (va_Qi post (gAt (dC, dI) vwCl (xT ca) (wX ad ca K) (va_A (wX ad ca K u) sz)) (va_A (wX ad ca K u) sz)) 0 0 (va_A (wX ad ca K u) sz) := by
  refine Met.ofW (cc := prog_4_method_6_code) (maxL := 3) (ret := (some .int)) (by decide) rfl ?_
  intro p e s m args below meth c s₁ B hml hv
  obtain ⟨rfl, hsz, hP, hK, hD0, hE⟩ := hv
  have hx := B.exec
  have hb := B.bytes
  have hr := B.returns
  have hts : ∀ w ∈ gW, w.before _ s = true := fun w h9 => atoms_spec (ws := (gw ⟨"WorkHall$Line", "cancelAll", "()I"⟩ prog_4_method_6_code 3 (some .int))) B.pre w (List.mem_cons_of_mem _ h9)
  have hown : s.vm.findClass RX2 = some m.cls := findClass_of_methodNamed B.named
  have hlocks := B.notSynchronized
  subst hsz
  have hD := hD0.self (sz := s.heap.size)
  generalize hAe : va_A (wX ad ca K u) s.heap.size = A at hD hE ⊢
  have hA : ∀ q : Nat, s.heap.size ≤ q → A q := fun q h => by rw [← hAe]; exact Or.inr h
  obtain ⟨H, hHe⟩ : ∃ z : Heap, z = s.heap := ⟨_, rfl⟩
  rw [← hHe]
  have hS : va_S A s.heap H [] := by rw [hHe]; exact va_S.rf
  have hP : va_P (dC, dI) vwCl (wX ad ca K u) H := by rw [hHe]; exact hP
  have hl := lv_entry ([.ref (ad 4)]) (n := 3) (Nat.le_of_ble_eq_true rfl)
  rw [lg_entry_eq]
  generalize (lg_sl ([.ref (ad 4)]) ++ List.replicate (3 - (lg_sl ([.ref (ad 4)])).length) Slot.unset).toArray = ls at hl ⊢
  have hl : lv_has ls 3 [(0, .ref (ad 4))] := hl
  clear hAe
  refine lv_aload_n hx hb dX2_cancelAll_0 rfl (lv_at hl 0 rfl) ?_
  refine va_get (D := (dC, dI)) (ci := 2) (v := .int (sI u 4)) (C := RX2) (T := TX2) (N := 5) hx hb hts uwX2 hown hK hP 4 rfl rfl 2 (by decide) (hts _ wd_121) (fun _ h9 => h9) rfl dX2_cancelAll_1 ?_
  refine lv_topi (fun x1 ex1 => ?_)
  have h := h x1 ex1
  refine lv_istore_n (lv' := [(1, .int x1), (0, .ref (ad 4))]) hx hb dX2_cancelAll_4 rfl hl (by decide) rfl (fun ls hl => ?_)
  refine lv_iconst (v := 0) hx hb dX2_cancelAll_5 (by decide) ?_
  refine lv_istore_n (lv' := [(2, .int 0), (1, .int x1), (0, .ref (ad 4))]) hx hb dX2_cancelAll_6 rfl hl (by decide) rfl (fun ls hl => ?_)
  obtain ⟨n7, h⟩ := h
  exact wpX2_cancelAll_7_ok hx hb hr hml hown hts hlocks hK hA hE n7 x1 0 u _ _ _ h hP hD hS (lv_sub hl [2, 1, 0] rfl)

theorem dX3_put_0 : decode prog_5_method_2_code 0 = .ok (.aload_n 0, 1) := by decide +kernel
theorem dX3_put_1 : decode prog_5_method_2_code 1 = .ok (.getfield 24, 3) := by decide +kernel
theorem dX3_put_4 : decode prog_5_method_2_code 4 = .ok (.bipush 10, 2) := by decide +kernel
theorem dX3_put_6 : decode prog_5_method_2_code 6 = .ok (.if_icmp .lt 4, 3) := by decide +kernel
theorem dX3_put_9 : decode prog_5_method_2_code 9 = .ok (.return_, 1) := by decide +kernel
theorem dX3_put_10 : decode prog_5_method_2_code 10 = .ok (.aload_n 0, 1) := by decide +kernel
theorem dX3_put_11 : decode prog_5_method_2_code 11 = .ok (.getfield 11, 3) := by decide +kernel
theorem dX3_put_14 : decode prog_5_method_2_code 14 = .ok (.aload_n 0, 1) := by decide +kernel
theorem dX3_put_15 : decode prog_5_method_2_code 15 = .ok (.getfield 24, 3) := by decide +kernel
theorem dX3_put_18 : decode prog_5_method_2_code 18 = .ok (.aload_n 1, 1) := by decide +kernel
theorem dX3_put_19 : decode prog_5_method_2_code 19 = .ok (.aastore, 1) := by decide +kernel
theorem dX3_put_20 : decode prog_5_method_2_code 20 = .ok (.aload_n 0, 1) := by decide +kernel
theorem dX3_put_21 : decode prog_5_method_2_code 21 = .ok (.getfield 17, 3) := by decide +kernel
theorem dX3_put_24 : decode prog_5_method_2_code 24 = .ok (.aload_n 0, 1) := by decide +kernel
theorem dX3_put_25 : decode prog_5_method_2_code 25 = .ok (.getfield 24, 3) := by decide +kernel
theorem dX3_put_28 : decode prog_5_method_2_code 28 = .ok (.dload_n 2, 1) := by decide +kernel
theorem dX3_put_29 : decode prog_5_method_2_code 29 = .ok (.dastore, 1) := by decide +kernel
theorem dX3_put_30 : decode prog_5_method_2_code 30 = .ok (.aload_n 0, 1) := by decide +kernel
theorem dX3_put_31 : decode prog_5_method_2_code 31 = .ok (.getfield 21, 3) := by decide +kernel
theorem dX3_put_34 : decode prog_5_method_2_code 34 = .ok (.aload_n 0, 1) := by decide +kernel
theorem dX3_put_35 : decode prog_5_method_2_code 35 = .ok (.getfield 24, 3) := by decide +kernel
theorem dX3_put_38 : decode prog_5_method_2_code 38 = .ok (.dload 4, 2) := by decide +kernel
theorem dX3_put_40 : decode prog_5_method_2_code 40 = .ok (.dastore, 1) := by decide +kernel
theorem dX3_put_41 : decode prog_5_method_2_code 41 = .ok (.aload_n 0, 1) := by decide +kernel
theorem dX3_put_42 : decode prog_5_method_2_code 42 = .ok (.dup, 1) := by decide +kernel
theorem dX3_put_43 : decode prog_5_method_2_code 43 = .ok (.getfield 24, 3) := by decide +kernel
theorem dX3_put_46 : decode prog_5_method_2_code 46 = .ok (.iconst 1, 1) := by decide +kernel
theorem dX3_put_47 : decode prog_5_method_2_code 47 = .ok (.iadd, 1) := by decide +kernel
theorem dX3_put_48 : decode prog_5_method_2_code 48 = .ok (.putfield 24, 3) := by decide +kernel
theorem dX3_put_51 : decode prog_5_method_2_code 51 = .ok (.return_, 1) := by decide +kernel
def wpX3_put (K : KX) (post : gS → Prop) (u : gS) (p1 : Nat) (p2 : UInt64) (p3 : UInt64) : Prop :=
  (((sI u 6) < 10 → (vp_in (sI u 6) 10 ∧ (∀ u2 : gS, u2 = tQ u 2 ((sI u 6).toNatClampNeg) (some p1) → (vp_in (sI u2 6) 10 ∧ (∀ u3 : gS, u3 = tB u2 1 ((sI u2 6).toNatClampNeg) p2 → (vp_in (sI u3 6) 10 ∧ (∀ u4 : gS, u4 = tB u3 2 ((sI u3 6).toNatClampNeg) p3 → (∀ u5 : gS, u5 = tI u4 6 ((sI u4 6) + 1) → (post u5))))))))) ∧ (¬ (sI u 6) < 10 → (post u)))

set_option maxHeartbeats 8000000 in
set_option maxRecDepth 100000 in
theorem cX3_put (l : Launch) (dC : Nat → ClassId) (dI : Nat → Nat → Nat) (ad : Nat → Nat) (ca : Nat → ClassId) (K : KX) (sz : Nat) (u : gS) (p1 : Nat) (p2 : UInt64) (p3 : UInt64) (post : gS → Prop) (hp1 : p1 ∈ K.2.2.1) (h : wpX3_put K post u p1 p2 p3) : Met l ⟨"WorkHall$Timetable", "put", "(LWorkHall$Job;DD)V"⟩ (gw ⟨"WorkHall$Timetable", "put", "(LWorkHall$Job;DD)V"⟩ prog_5_method_2_code 6 none) ({ frames := 1, cells := 0, slots := 0, locals := 40 } : Room) (va_Pc [.ref (ad 7), .ref p1, .double p2, .double p3] (gB (dC, dI) vwCl (xT ca) xE (wX ad ca K u) sz)) (va_Qv post (gAt (dC, dI) vwCl (xT ca) (wX ad ca K) (va_A (wX ad ca K u) sz)) (va_A (wX ad ca K u) sz)) 0 0 (va_A (wX ad ca K u) sz) := by
  refine Met.ofW (cc := prog_5_method_2_code) (maxL := 6) (ret := none) (by decide) rfl ?_
  intro p e s m args below meth c s₁ B hml hv
  obtain ⟨rfl, hsz, hP, hK, hD0, hE⟩ := hv
  have hx := B.exec
  have hb := B.bytes
  have hr := B.returns
  have hts : ∀ w ∈ gW, w.before _ s = true := fun w h9 => atoms_spec (ws := (gw ⟨"WorkHall$Timetable", "put", "(LWorkHall$Job;DD)V"⟩ prog_5_method_2_code 6 none)) B.pre w (List.mem_cons_of_mem _ h9)
  have hown : s.vm.findClass RX3 = some m.cls := findClass_of_methodNamed B.named
  have hlocks := B.notSynchronized
  subst hsz
  have hD := hD0.self (sz := s.heap.size)
  generalize hAe : va_A (wX ad ca K u) s.heap.size = A at hD hE ⊢
  have hA : ∀ q : Nat, s.heap.size ≤ q → A q := fun q h => by rw [← hAe]; exact Or.inr h
  obtain ⟨H, hHe⟩ : ∃ z : Heap, z = s.heap := ⟨_, rfl⟩
  rw [← hHe]
  have hS : va_S A s.heap H [] := by rw [hHe]; exact va_S.rf
  have hP : va_P (dC, dI) vwCl (wX ad ca K u) H := by rw [hHe]; exact hP
  have hl := lv_entry ([.ref (ad 7), .ref p1, .double p2, .double p3]) (n := 6) (Nat.le_of_ble_eq_true rfl)
  rw [lg_entry_eq]
  generalize (lg_sl ([.ref (ad 7), .ref p1, .double p2, .double p3]) ++ List.replicate (6 - (lg_sl ([.ref (ad 7), .ref p1, .double p2, .double p3])).length) Slot.unset).toArray = ls at hl ⊢
  have hl : lv_has ls 6 [(0, .ref (ad 7)), (1, .ref p1), (2, .double p2), (4, .double p3)] := hl
  clear hAe
  refine lv_aload_n hx hb dX3_put_0 rfl (lv_at hl 0 rfl) ?_
  refine va_get (D := (dC, dI)) (ci := 3) (v := .int (sI u 6)) (C := RX3) (T := TX3) (N := 4) hx hb hts uwX3 hown hK hP 7 rfl rfl 3 (by decide) (hts _ wd_152) (fun _ h9 => h9) rfl dX3_put_1 ?_
  refine lv_bipush (v := 10) hx hb dX3_put_4 (by decide) ?_
  refine lv_icmp_lt (tgt := 10) hx hb dX3_put_6 (by decide) (fun c1 => ?_) (fun c1 => ?_)
  · have h := h.1 c1
    refine lv_aload_n hx hb dX3_put_10 rfl (lv_at hl 0 rfl) ?_
    refine va_get (D := (dC, dI)) (ci := 3) (v := .ref (ad 8)) (C := RX3) (T := TX3) (N := 4) hx hb hts uwX3 hown hK hP 7 rfl rfl 0 (by decide) (hts _ wd_146) (fun _ h9 => h9) rfl dX3_put_11 ?_
    refine lv_aload_n hx hb dX3_put_14 rfl (lv_at hl 0 rfl) ?_
    refine va_get (D := (dC, dI)) (ci := 3) (v := .int (sI u 6)) (C := RX3) (T := TX3) (N := 4) hx hb hts uwX3 hown hK hP 7 rfl rfl 3 (by decide) (hts _ wd_152) (fun _ h9 => h9) rfl dX3_put_15 ?_
    refine lv_aload_n hx hb dX3_put_18 rfl (lv_at hl 1 rfl) ?_
    refine gq_aast (v := (some p1)) (r := (RX5, TX5, 9)) hx hb hK hP hD hS 8 0 5 rfl rfl (fun y9 e9 => by cases e9; obtain ⟨k9, hk9⟩ := xJ_get hp1; exact ⟨k9, _, hk9⟩) rfl h.1 dX3_put_19 (fun H locs hP hD hS => ?_)
    have h := h.2
    obtain ⟨u2, eu2⟩ : ∃ z : gS, z = tQ u 2 ((sI u 6).toNatClampNeg) (some p1) := ⟨_, rfl⟩
    have hP : va_P (dC, dI) vwCl (wX ad ca K u2) H := by rw [eu2, wX_a8]; exact hP
    have hD : va_D A (wX ad ca K u2) := by rw [eu2, wX_a8]; exact hD
    have h := h u2 eu2
    refine lv_aload_n hx hb dX3_put_20 rfl (lv_at hl 0 rfl) ?_
    refine va_get (D := (dC, dI)) (ci := 3) (v := .ref (ad 9)) (C := RX3) (T := TX3) (N := 4) hx hb hts uwX3 hown hK hP 7 rfl rfl 1 (by decide) (hts _ wd_148) (fun _ h9 => h9) rfl dX3_put_21 ?_
    refine lv_aload_n hx hb dX3_put_24 rfl (lv_at hl 0 rfl) ?_
    refine va_get (D := (dC, dI)) (ci := 3) (v := .int (sI u2 6)) (C := RX3) (T := TX3) (N := 4) hx hb hts uwX3 hown hK hP 7 rfl rfl 3 (by decide) (hts _ wd_152) (fun _ h9 => h9) rfl dX3_put_25 ?_
    refine lv_dload_n hx hb dX3_put_28 rfl (lv_at hl 2 rfl) ?_
    refine va_dast hx hb hK hP hD hS 9 2 rfl rfl h.1 dX3_put_29 (fun H locs hP hD hS => ?_)
    have h := h.2
    obtain ⟨u3, eu3⟩ : ∃ z : gS, z = tB u2 1 ((sI u2 6).toNatClampNeg) p2 := ⟨_, rfl⟩
    have hP : va_P (dC, dI) vwCl (wX ad ca K u3) H := by rw [eu3, wX_a9]; exact hP
    have hD : va_D A (wX ad ca K u3) := by rw [eu3, wX_a9]; exact hD
    have h := h u3 eu3
    refine lv_aload_n hx hb dX3_put_30 rfl (lv_at hl 0 rfl) ?_
    refine va_get (D := (dC, dI)) (ci := 3) (v := .ref (ad 10)) (C := RX3) (T := TX3) (N := 4) hx hb hts uwX3 hown hK hP 7 rfl rfl 2 (by decide) (hts _ wd_150) (fun _ h9 => h9) rfl dX3_put_31 ?_
    refine lv_aload_n hx hb dX3_put_34 rfl (lv_at hl 0 rfl) ?_
    refine va_get (D := (dC, dI)) (ci := 3) (v := .int (sI u3 6)) (C := RX3) (T := TX3) (N := 4) hx hb hts uwX3 hown hK hP 7 rfl rfl 3 (by decide) (hts _ wd_152) (fun _ h9 => h9) rfl dX3_put_35 ?_
    refine lv_dload hx hb dX3_put_38 (lv_at hl 3 rfl) ?_
    refine va_dast hx hb hK hP hD hS 10 2 rfl rfl h.1 dX3_put_40 (fun H locs hP hD hS => ?_)
    have h := h.2
    obtain ⟨u4, eu4⟩ : ∃ z : gS, z = tB u3 2 ((sI u3 6).toNatClampNeg) p3 := ⟨_, rfl⟩
    have hP : va_P (dC, dI) vwCl (wX ad ca K u4) H := by rw [eu4, wX_a10]; exact hP
    have hD : va_D A (wX ad ca K u4) := by rw [eu4, wX_a10]; exact hD
    have h := h u4 eu4
    refine lv_aload_n hx hb dX3_put_41 rfl (lv_at hl 0 rfl) ?_
    refine lv_dup hx hb dX3_put_42 rfl ?_
    refine va_get (D := (dC, dI)) (ci := 3) (v := .int (sI u4 6)) (C := RX3) (T := TX3) (N := 4) hx hb hts uwX3 hown hK hP 7 rfl rfl 3 (by decide) (hts _ wd_152) (fun _ h9 => h9) rfl dX3_put_43 ?_
    refine lv_iconst (v := 1) hx hb dX3_put_46 (by decide) ?_
    refine lv_iadd hx hb dX3_put_47 ?_
    refine va_put (D := (dC, dI)) (ci := 3) (v := .int ((sI u4 6) + 1)) (ty := tyX3 3) (C := RX3) (T := TX3) (N := 4) hx hb hts uwX3 tyX3 tyX3_ok nmX3 hown hK hP hD hS 7 rfl rfl 3 (by decide) (hts _ wd_152) (fun _ h9 => h9) rfl (tyX3_ok 3 (by decide)) rfl rfl (Nat.le_of_ble_eq_true rfl) dX3_put_48 (fun H locs hP hD hS => ?_)
    obtain ⟨u5, eu5⟩ : ∃ z : gS, z = tI u4 6 ((sI u4 6) + 1) := ⟨_, rfl⟩
    have hP : va_P (dC, dI) vwCl (wX ad ca K u5) H := by rw [eu5, wX_f7_size]; exact hP
    have hD : va_D A (wX ad ca K u5) := by rw [eu5, wX_f7_size]; exact hD
    have h := h u5 eu5
    exact gr_v (w := wX ad ca K) (u := u5) hx hb hr hlocks h hP hK hD hS dX3_put_51
  · have h := h.2 c1
    exact gr_v (w := wX ad ca K) (u := u) hx hb hr hlocks h hP hK hD hS dX3_put_9
end
section
theorem dX3_firstPlace_0 : decode prog_5_method_3_code 0 = .ok (.iconst (-1), 1) := by decide +kernel
theorem dX3_firstPlace_1 : decode prog_5_method_3_code 1 = .ok (.istore_n 1, 1) := by decide +kernel
theorem dX3_firstPlace_2 : decode prog_5_method_3_code 2 = .ok (.iconst 0, 1) := by decide +kernel
theorem dX3_firstPlace_3 : decode prog_5_method_3_code 3 = .ok (.istore_n 2, 1) := by decide +kernel
theorem dX3_firstPlace_4 : decode prog_5_method_3_code 4 = .ok (.iload_n 2, 1) := by decide +kernel
theorem dX3_firstPlace_5 : decode prog_5_method_3_code 5 = .ok (.aload_n 0, 1) := by decide +kernel
theorem dX3_firstPlace_6 : decode prog_5_method_3_code 6 = .ok (.getfield 24, 3) := by decide +kernel
theorem dX3_firstPlace_9 : decode prog_5_method_3_code 9 = .ok (.if_icmp .ge 31, 3) := by decide +kernel
theorem dX3_firstPlace_12 : decode prog_5_method_3_code 12 = .ok (.iload_n 1, 1) := by decide +kernel
theorem dX3_firstPlace_13 : decode prog_5_method_3_code 13 = .ok (.ifCond .lt 19, 3) := by decide +kernel
theorem dX3_firstPlace_16 : decode prog_5_method_3_code 16 = .ok (.aload_n 0, 1) := by decide +kernel
theorem dX3_firstPlace_17 : decode prog_5_method_3_code 17 = .ok (.getfield 17, 3) := by decide +kernel
theorem dX3_firstPlace_20 : decode prog_5_method_3_code 20 = .ok (.iload_n 2, 1) := by decide +kernel
theorem dX3_firstPlace_21 : decode prog_5_method_3_code 21 = .ok (.daload, 1) := by decide +kernel
theorem dX3_firstPlace_22 : decode prog_5_method_3_code 22 = .ok (.aload_n 0, 1) := by decide +kernel
theorem dX3_firstPlace_23 : decode prog_5_method_3_code 23 = .ok (.getfield 17, 3) := by decide +kernel
theorem dX3_firstPlace_26 : decode prog_5_method_3_code 26 = .ok (.iload_n 1, 1) := by decide +kernel
theorem dX3_firstPlace_27 : decode prog_5_method_3_code 27 = .ok (.daload, 1) := by decide +kernel
theorem dX3_firstPlace_28 : decode prog_5_method_3_code 28 = .ok (.dcmp .g, 1) := by decide +kernel
theorem dX3_firstPlace_29 : decode prog_5_method_3_code 29 = .ok (.ifCond .ge 5, 3) := by decide +kernel
theorem dX3_firstPlace_32 : decode prog_5_method_3_code 32 = .ok (.iload_n 2, 1) := by decide +kernel
theorem dX3_firstPlace_33 : decode prog_5_method_3_code 33 = .ok (.istore_n 1, 1) := by decide +kernel
theorem dX3_firstPlace_34 : decode prog_5_method_3_code 34 = .ok (.iinc 2 1, 3) := by decide +kernel
theorem dX3_firstPlace_37 : decode prog_5_method_3_code 37 = .ok (.goto (-33), 3) := by decide +kernel
theorem dX3_firstPlace_40 : decode prog_5_method_3_code 40 = .ok (.iload_n 1, 1) := by decide +kernel
theorem dX3_firstPlace_41 : decode prog_5_method_3_code 41 = .ok (.ireturn, 1) := by decide +kernel
def wpX3_firstPlace_4 (K : KX) (post : Int32 → gS → Prop) : Nat → Int32 → Int32 → gS → Prop
  | 0 => fun _ _ _ => False
  | n + 1 => fun l1 l2 u => (((sI u 6) ≤ l2 → (post l1 u)) ∧ (¬ (sI u 6) ≤ l2 → (((l1 < 0 → (∀ x3 : Int32, x3 = l2 + 1 → (wpX3_firstPlace_4 K post n l2 x3 u))) ∧ (¬ l1 < 0 → (vp_in l2 10 ∧ (vp_in l1 10 ∧ (((0 ≤ (Op.cmpValue (FP.dcmp (sB u 1 l2.toNatClampNeg) (sB u 1 l1.toNatClampNeg)) .g) → (∀ x5 : Int32, x5 = l2 + 1 → (wpX3_firstPlace_4 K post n l1 x5 u))) ∧ (¬ 0 ≤ (Op.cmpValue (FP.dcmp (sB u 1 l2.toNatClampNeg) (sB u 1 l1.toNatClampNeg)) .g) → (∀ x6 : Int32, x6 = l2 + 1 → (wpX3_firstPlace_4 K post n l2 x6 u))))))))))))

def wpX3_firstPlace (K : KX) (post : Int32 → gS → Prop) (u : gS)  : Prop :=
  ∃ n4 : Nat, wpX3_firstPlace_4 K post n4 (-1) 0 u

set_option maxHeartbeats 8000000 in
set_option maxRecDepth 100000 in
theorem wpX3_firstPlace_4_ok {p : Program} {l : Launch} {e : Env} {s : State} {m : MethodId} {args : Array Value} {below : List Frame} {meth : Method} {c : Code} {dC : Nat → ClassId} {dI : Nat → Nat → Nat} {ad : Nat → Nat} {ca : Nat → ClassId} {K : KX} {A : Nat → Prop} {post : Int32 → gS → Prop}   (hx : p.tables.exec = Jvm.exec) (hb : c.code = prog_5_method_3_code) (hr : meth.sig.returnType = (some .int)) (hml : c.maxLocals = 3) (hown : s.vm.findClass RX3 = some m.cls) (hts : ∀ w ∈ gW, w.before args s = true) (hlocks : meth.locks = false) (hK : va_K (dC, dI) vwCl (xT ca) s) (hA : ∀ q, s.heap.size ≤ q → A q) (hE : xE A s s.heap) :
    ∀ (n : Nat) (l1 : Int32) (l2 : Int32) (u : gS) (H : Heap) (locs : List Loc) (ls : Array Slot), wpX3_firstPlace_4 K post n l1 l2 u → va_P (dC, dI) vwCl (wX ad ca K u) H → va_D A (wX ad ca K u) → va_S A s.heap H locs → lv_has ls 3 [(0, .ref (ad 7)), (1, .int l1), (2, .int l2)] → W p l e (headSpec (gw ⟨"WorkHall$Timetable", "firstPlace", "()I"⟩ prog_5_method_3_code 3 (some .int)) ({ frames := 1, cells := 0, slots := 0, locals := 40 } : Room)).room s m args below meth c H locs 0 0 (MQ below (va_Qi post (gAt (dC, dI) vwCl (xT ca) (wX ad ca K) (A)) (A)) args s 0 0 A) (F0 m 4 ls []) := by
  intro n
  induction n with
  | zero => exact fun _ _ _ _ _ _ h => h.elim
  | succ n ih =>
    intro l1 l2 u H locs ls h hP hD hS hl
    refine lv_iload_n hx hb dX3_firstPlace_4 rfl (lv_at hl 2 rfl) ?_
    refine lv_aload_n hx hb dX3_firstPlace_5 rfl (lv_at hl 0 rfl) ?_
    refine va_get (D := (dC, dI)) (ci := 3) (v := .int (sI u 6)) (C := RX3) (T := TX3) (N := 4) hx hb hts uwX3 hown hK hP 7 rfl rfl 3 (by decide) (hts _ wd_152) (fun _ h9 => h9) rfl dX3_firstPlace_6 ?_
    refine lv_icmp_ge (tgt := 40) hx hb dX3_firstPlace_9 (by decide) (fun c1 => ?_) (fun c1 => ?_)
    · have h := h.1 c1
      refine lv_iload_n hx hb dX3_firstPlace_40 rfl (lv_at hl 1 rfl) ?_
      exact gr_i (w := wX ad ca K) (u := u) hx hb hr hlocks h hP hK hD hS dX3_firstPlace_41
    · have h := h.2 c1
      refine lv_iload_n hx hb dX3_firstPlace_12 rfl (lv_at hl 1 rfl) ?_
      refine lv_if_lt (tgt := 32) hx hb dX3_firstPlace_13 (by decide) (fun c2 => ?_) (fun c2 => ?_)
      · have h := h.1 c2
        refine lv_iload_n hx hb dX3_firstPlace_32 rfl (lv_at hl 2 rfl) ?_
        refine lv_istore_n (lv' := [(1, .int l2), (0, .ref (ad 7)), (2, .int l2)]) hx hb dX3_firstPlace_33 rfl hl (by decide) rfl (fun ls hl => ?_)
        obtain ⟨x3, ex3⟩ : ∃ y : Int32, y = l2 + 1 := ⟨_, rfl⟩
        have h := h x3 ex3
        refine lv_iinc (v := x3) (lv' := [(2, .int x3), (1, .int l2), (0, .ref (ad 7))]) hx hb dX3_firstPlace_34 hl (k := 2) rfl (by rw [ex3]; rfl) (by decide) rfl (fun ls hl => ?_)
        refine lv_goto (tgt := 4) hx hb dX3_firstPlace_37 (by decide) ?_
        exact ih l2 x3 u _ _ _ h hP hD hS (lv_sub hl [2, 1, 0] rfl)
      · have h := h.2 c2
        refine lv_aload_n hx hb dX3_firstPlace_16 rfl (lv_at hl 0 rfl) ?_
        refine va_get (D := (dC, dI)) (ci := 3) (v := .ref (ad 9)) (C := RX3) (T := TX3) (N := 4) hx hb hts uwX3 hown hK hP 7 rfl rfl 1 (by decide) (hts _ wd_148) (fun _ h9 => h9) rfl dX3_firstPlace_17 ?_
        refine lv_iload_n hx hb dX3_firstPlace_20 rfl (lv_at hl 2 rfl) ?_
        refine va_dald hx hb hK hP 9 2 rfl rfl h.1 dX3_firstPlace_21 ?_
        have h := h.2
        refine lv_aload_n hx hb dX3_firstPlace_22 rfl (lv_at hl 0 rfl) ?_
        refine va_get (D := (dC, dI)) (ci := 3) (v := .ref (ad 9)) (C := RX3) (T := TX3) (N := 4) hx hb hts uwX3 hown hK hP 7 rfl rfl 1 (by decide) (hts _ wd_148) (fun _ h9 => h9) rfl dX3_firstPlace_23 ?_
        refine lv_iload_n hx hb dX3_firstPlace_26 rfl (lv_at hl 1 rfl) ?_
        refine va_dald hx hb hK hP 9 2 rfl rfl h.1 dX3_firstPlace_27 ?_
        have h := h.2
        refine lv_dcmp hx hb dX3_firstPlace_28 ?_
        refine lv_if_ge (tgt := 34) hx hb dX3_firstPlace_29 (by decide) (fun c4 => ?_) (fun c4 => ?_)
        · have h := h.1 c4
          obtain ⟨x5, ex5⟩ : ∃ y : Int32, y = l2 + 1 := ⟨_, rfl⟩
          have h := h x5 ex5
          refine lv_iinc (v := x5) (lv' := [(2, .int x5), (0, .ref (ad 7)), (1, .int l1)]) hx hb dX3_firstPlace_34 hl (k := 2) rfl (by rw [ex5]; rfl) (by decide) rfl (fun ls hl => ?_)
          refine lv_goto (tgt := 4) hx hb dX3_firstPlace_37 (by decide) ?_
          exact ih l1 x5 u _ _ _ h hP hD hS (lv_sub hl [1, 2, 0] rfl)
        · have h := h.2 c4
          refine lv_iload_n hx hb dX3_firstPlace_32 rfl (lv_at hl 2 rfl) ?_
          refine lv_istore_n (lv' := [(1, .int l2), (0, .ref (ad 7)), (2, .int l2)]) hx hb dX3_firstPlace_33 rfl hl (by decide) rfl (fun ls hl => ?_)
          obtain ⟨x6, ex6⟩ : ∃ y : Int32, y = l2 + 1 := ⟨_, rfl⟩
          have h := h x6 ex6
          refine lv_iinc (v := x6) (lv' := [(2, .int x6), (1, .int l2), (0, .ref (ad 7))]) hx hb dX3_firstPlace_34 hl (k := 2) rfl (by rw [ex6]; rfl) (by decide) rfl (fun ls hl => ?_)
          refine lv_goto (tgt := 4) hx hb dX3_firstPlace_37 (by decide) ?_
          exact ih l2 x6 u _ _ _ h hP hD hS (lv_sub hl [2, 1, 0] rfl)

set_option maxHeartbeats 8000000 in
set_option maxRecDepth 100000 in
theorem cX3_firstPlace (l : Launch) (dC : Nat → ClassId) (dI : Nat → Nat → Nat) (ad : Nat → Nat) (ca : Nat → ClassId) (K : KX) (sz : Nat) (u : gS)  (post : Int32 → gS → Prop)  (h : wpX3_firstPlace K post u ) : Met l ⟨"WorkHall$Timetable", "firstPlace", "()I"⟩ (gw ⟨"WorkHall$Timetable", "firstPlace", "()I"⟩ prog_5_method_3_code 3 (some .int)) ({ frames := 1, cells := 0, slots := 0, locals := 40 } : Room) (va_Pc [.ref (ad 7)] (gB (dC, dI) vwCl (xT ca) xE (wX ad ca K u) sz)) (va_Qi post (gAt (dC, dI) vwCl (xT ca) (wX ad ca K) (va_A (wX ad ca K u) sz)) (va_A (wX ad ca K u) sz)) 0 0 (va_A (wX ad ca K u) sz) := by
  refine Met.ofW (cc := prog_5_method_3_code) (maxL := 3) (ret := (some .int)) (by decide) rfl ?_
  intro p e s m args below meth c s₁ B hml hv
  obtain ⟨rfl, hsz, hP, hK, hD0, hE⟩ := hv
  have hx := B.exec
  have hb := B.bytes
  have hr := B.returns
  have hts : ∀ w ∈ gW, w.before _ s = true := fun w h9 => atoms_spec (ws := (gw ⟨"WorkHall$Timetable", "firstPlace", "()I"⟩ prog_5_method_3_code 3 (some .int))) B.pre w (List.mem_cons_of_mem _ h9)
  have hown : s.vm.findClass RX3 = some m.cls := findClass_of_methodNamed B.named
  have hlocks := B.notSynchronized
  subst hsz
  have hD := hD0.self (sz := s.heap.size)
  generalize hAe : va_A (wX ad ca K u) s.heap.size = A at hD hE ⊢
  have hA : ∀ q : Nat, s.heap.size ≤ q → A q := fun q h => by rw [← hAe]; exact Or.inr h
  obtain ⟨H, hHe⟩ : ∃ z : Heap, z = s.heap := ⟨_, rfl⟩
  rw [← hHe]
  have hS : va_S A s.heap H [] := by rw [hHe]; exact va_S.rf
  have hP : va_P (dC, dI) vwCl (wX ad ca K u) H := by rw [hHe]; exact hP
  have hl := lv_entry ([.ref (ad 7)]) (n := 3) (Nat.le_of_ble_eq_true rfl)
  rw [lg_entry_eq]
  generalize (lg_sl ([.ref (ad 7)]) ++ List.replicate (3 - (lg_sl ([.ref (ad 7)])).length) Slot.unset).toArray = ls at hl ⊢
  have hl : lv_has ls 3 [(0, .ref (ad 7))] := hl
  clear hAe
  refine lv_iconst (v := (-1)) hx hb dX3_firstPlace_0 (by decide) ?_
  refine lv_istore_n (lv' := [(1, .int (-1)), (0, .ref (ad 7))]) hx hb dX3_firstPlace_1 rfl hl (by decide) rfl (fun ls hl => ?_)
  refine lv_iconst (v := 0) hx hb dX3_firstPlace_2 (by decide) ?_
  refine lv_istore_n (lv' := [(2, .int 0), (1, .int (-1)), (0, .ref (ad 7))]) hx hb dX3_firstPlace_3 rfl hl (by decide) rfl (fun ls hl => ?_)
  obtain ⟨n4, h⟩ := h
  exact wpX3_firstPlace_4_ok hx hb hr hml hown hts hlocks hK hA hE n4 (-1) 0 u _ _ _ h hP hD hS (lv_sub hl [2, 1, 0] rfl)

theorem dX3_hasEntryUpTo_0 : decode prog_5_method_4_code 0 = .ok (.aload_n 0, 1) := by decide +kernel
theorem dX3_hasEntryUpTo_1 : decode prog_5_method_4_code 1 = .ok (.invokevirtual 28, 3) := by decide +kernel
theorem dX3_hasEntryUpTo_4 : decode prog_5_method_4_code 4 = .ok (.istore_n 3, 1) := by decide +kernel
theorem dX3_hasEntryUpTo_5 : decode prog_5_method_4_code 5 = .ok (.iload_n 3, 1) := by decide +kernel
theorem dX3_hasEntryUpTo_6 : decode prog_5_method_4_code 6 = .ok (.ifCond .lt 18, 3) := by decide +kernel
theorem dX3_hasEntryUpTo_9 : decode prog_5_method_4_code 9 = .ok (.aload_n 0, 1) := by decide +kernel
theorem dX3_hasEntryUpTo_10 : decode prog_5_method_4_code 10 = .ok (.getfield 17, 3) := by decide +kernel
theorem dX3_hasEntryUpTo_13 : decode prog_5_method_4_code 13 = .ok (.iload_n 3, 1) := by decide +kernel
theorem dX3_hasEntryUpTo_14 : decode prog_5_method_4_code 14 = .ok (.daload, 1) := by decide +kernel
theorem dX3_hasEntryUpTo_15 : decode prog_5_method_4_code 15 = .ok (.dload_n 1, 1) := by decide +kernel
theorem dX3_hasEntryUpTo_16 : decode prog_5_method_4_code 16 = .ok (.dcmp .g, 1) := by decide +kernel
theorem dX3_hasEntryUpTo_17 : decode prog_5_method_4_code 17 = .ok (.ifCond .gt 7, 3) := by decide +kernel
theorem dX3_hasEntryUpTo_20 : decode prog_5_method_4_code 20 = .ok (.iconst 1, 1) := by decide +kernel
theorem dX3_hasEntryUpTo_21 : decode prog_5_method_4_code 21 = .ok (.goto 4, 3) := by decide +kernel
theorem dX3_hasEntryUpTo_24 : decode prog_5_method_4_code 24 = .ok (.iconst 0, 1) := by decide +kernel
theorem dX3_hasEntryUpTo_25 : decode prog_5_method_4_code 25 = .ok (.ireturn, 1) := by decide +kernel
def wpX3_hasEntryUpTo (K : KX) (post : Int32 → gS → Prop) (u : gS) (p1 : UInt64) : Prop :=
  wpX3_firstPlace K (fun (r1 : Int32) (u2 : gS) => ((r1 < 0 → (narrow .boolean (.int 0) = .int 0 ∧ post 0 u2)) ∧ (¬ r1 < 0 → (vp_in r1 10 ∧ (((0 < (Op.cmpValue (FP.dcmp (sB u2 1 r1.toNatClampNeg) p1) .g) → (narrow .boolean (.int 0) = .int 0 ∧ post 0 u2)) ∧ (¬ 0 < (Op.cmpValue (FP.dcmp (sB u2 1 r1.toNatClampNeg) p1) .g) → (narrow .boolean (.int 1) = .int 1 ∧ post 1 u2)))))))) u

set_option maxHeartbeats 8000000 in
set_option maxRecDepth 100000 in
theorem cX3_hasEntryUpTo (l : Launch) (dC : Nat → ClassId) (dI : Nat → Nat → Nat) (ad : Nat → Nat) (ca : Nat → ClassId) (K : KX) (sz : Nat) (u : gS) (p1 : UInt64) (post : Int32 → gS → Prop)  (h : wpX3_hasEntryUpTo K post u p1) : Met l ⟨"WorkHall$Timetable", "hasEntryUpTo", "(D)Z"⟩ (gw ⟨"WorkHall$Timetable", "hasEntryUpTo", "(D)Z"⟩ prog_5_method_4_code 4 (some .boolean)) ({ frames := 2, cells := 0, slots := 0, locals := 80 } : Room) (va_Pc [.ref (ad 7), .double p1] (gB (dC, dI) vwCl (xT ca) xE (wX ad ca K u) sz)) (va_Qi post (gAt (dC, dI) vwCl (xT ca) (wX ad ca K) (va_A (wX ad ca K u) sz)) (va_A (wX ad ca K u) sz)) 0 0 (va_A (wX ad ca K u) sz) := by
  refine Met.ofW (cc := prog_5_method_4_code) (maxL := 4) (ret := (some .boolean)) (by decide) rfl ?_
  intro p e s m args below meth c s₁ B hml hv
  obtain ⟨rfl, hsz, hP, hK, hD0, hE⟩ := hv
  have hx := B.exec
  have hb := B.bytes
  have hr := B.returns
  have hts : ∀ w ∈ gW, w.before _ s = true := fun w h9 => atoms_spec (ws := (gw ⟨"WorkHall$Timetable", "hasEntryUpTo", "(D)Z"⟩ prog_5_method_4_code 4 (some .boolean))) B.pre w (List.mem_cons_of_mem _ h9)
  have hown : s.vm.findClass RX3 = some m.cls := findClass_of_methodNamed B.named
  have hlocks := B.notSynchronized
  subst hsz
  have hD := hD0.self (sz := s.heap.size)
  generalize hAe : va_A (wX ad ca K u) s.heap.size = A at hD hE ⊢
  have hA : ∀ q : Nat, s.heap.size ≤ q → A q := fun q h => by rw [← hAe]; exact Or.inr h
  obtain ⟨H, hHe⟩ : ∃ z : Heap, z = s.heap := ⟨_, rfl⟩
  rw [← hHe]
  have hS : va_S A s.heap H [] := by rw [hHe]; exact va_S.rf
  have hP : va_P (dC, dI) vwCl (wX ad ca K u) H := by rw [hHe]; exact hP
  have hl := lv_entry ([.ref (ad 7), .double p1]) (n := 4) (Nat.le_of_ble_eq_true rfl)
  rw [lg_entry_eq]
  generalize (lg_sl ([.ref (ad 7), .double p1]) ++ List.replicate (4 - (lg_sl ([.ref (ad 7), .double p1])).length) Slot.unset).toArray = ls at hl ⊢
  have hl : lv_has ls 4 [(0, .ref (ad 7)), (1, .double p1)] := hl
  clear hAe
  refine lv_aload_n hx hb dX3_hasEntryUpTo_0 rfl (lv_at hl 0 rfl) ?_
  refine gc_i (w := wX ad ca K) (u := u) (va_runV (As := []) (rest := []) ⟨hx, hb, hml, hown, hts⟩ (cX3_firstPlace l dC dI ad ca K H.size u _ h) (cwV 0 hts (gG_V wd_616 wd_617 wd_618 wd_50 wd_619) rfl rfl rfl (by decide +kernel) ⟨Nat.le_of_ble_eq_true rfl, Nat.le_of_ble_eq_true rfl⟩) ⟨gB_blind xE_ok, va_recv hK hP (ci := 3) (q0 := 7) rfl rfl, gB_pre xE_ok hP hK hD hE hS hA⟩ rfl rfl hl.1 rfl (lv_room (Nat.le_of_ble_eq_true rfl)) dX3_hasEntryUpTo_1 ⟨Nat.le_of_ble_eq_true rfl, Nat.le_of_ble_eq_true rfl⟩) hD hS hA (fun r1 u2 H locs h hP hD hS => ?_)
  refine lv_istore_n (lv' := [(3, .int r1), (0, .ref (ad 7)), (1, .double p1)]) hx hb dX3_hasEntryUpTo_4 rfl hl (by decide) rfl (fun ls hl => ?_)
  refine lv_iload_n hx hb dX3_hasEntryUpTo_5 rfl (lv_at hl 0 rfl) ?_
  refine lv_if_lt (tgt := 24) hx hb dX3_hasEntryUpTo_6 (by decide) (fun c3 => ?_) (fun c3 => ?_)
  · have h := h.1 c3
    refine lv_iconst (v := 0) hx hb dX3_hasEntryUpTo_24 (by decide) ?_
    exact gr_z (w := wX ad ca K) (u := u2) hx hb hr hlocks h.1 h.2 hP hK hD hS dX3_hasEntryUpTo_25
  · have h := h.2 c3
    refine lv_aload_n hx hb dX3_hasEntryUpTo_9 rfl (lv_at hl 1 rfl) ?_
    refine va_get (D := (dC, dI)) (ci := 3) (v := .ref (ad 9)) (C := RX3) (T := TX3) (N := 4) hx hb hts uwX3 hown hK hP 7 rfl rfl 1 (by decide) (hts _ wd_148) (fun _ h9 => h9) rfl dX3_hasEntryUpTo_10 ?_
    refine lv_iload_n hx hb dX3_hasEntryUpTo_13 rfl (lv_at hl 0 rfl) ?_
    refine va_dald hx hb hK hP 9 2 rfl rfl h.1 dX3_hasEntryUpTo_14 ?_
    have h := h.2
    refine lv_dload_n hx hb dX3_hasEntryUpTo_15 rfl (lv_at hl 2 rfl) ?_
    refine lv_dcmp hx hb dX3_hasEntryUpTo_16 ?_
    refine lv_if_gt (tgt := 24) hx hb dX3_hasEntryUpTo_17 (by decide) (fun c4 => ?_) (fun c4 => ?_)
    · have h := h.1 c4
      refine lv_iconst (v := 0) hx hb dX3_hasEntryUpTo_24 (by decide) ?_
      exact gr_z (w := wX ad ca K) (u := u2) hx hb hr hlocks h.1 h.2 hP hK hD hS dX3_hasEntryUpTo_25
    · have h := h.2 c4
      refine lv_iconst (v := 1) hx hb dX3_hasEntryUpTo_20 (by decide) ?_
      refine lv_goto (tgt := 25) hx hb dX3_hasEntryUpTo_21 (by decide) ?_
      exact gr_z (w := wX ad ca K) (u := u2) hx hb hr hlocks h.1 h.2 hP hK hD hS dX3_hasEntryUpTo_25

theorem dX3_removeAt_0 : decode prog_5_method_5_code 0 = .ok (.iload_n 1, 1) := by decide +kernel
theorem dX3_removeAt_1 : decode prog_5_method_5_code 1 = .ok (.ifCond .lt 11, 3) := by decide +kernel
theorem dX3_removeAt_4 : decode prog_5_method_5_code 4 = .ok (.iload_n 1, 1) := by decide +kernel
theorem dX3_removeAt_5 : decode prog_5_method_5_code 5 = .ok (.aload_n 0, 1) := by decide +kernel
theorem dX3_removeAt_6 : decode prog_5_method_5_code 6 = .ok (.getfield 24, 3) := by decide +kernel
theorem dX3_removeAt_9 : decode prog_5_method_5_code 9 = .ok (.if_icmp .lt 4, 3) := by decide +kernel
theorem dX3_removeAt_12 : decode prog_5_method_5_code 12 = .ok (.return_, 1) := by decide +kernel
theorem dX3_removeAt_13 : decode prog_5_method_5_code 13 = .ok (.iload_n 1, 1) := by decide +kernel
theorem dX3_removeAt_14 : decode prog_5_method_5_code 14 = .ok (.istore_n 2, 1) := by decide +kernel
theorem dX3_removeAt_15 : decode prog_5_method_5_code 15 = .ok (.iload_n 2, 1) := by decide +kernel
theorem dX3_removeAt_16 : decode prog_5_method_5_code 16 = .ok (.aload_n 0, 1) := by decide +kernel
theorem dX3_removeAt_17 : decode prog_5_method_5_code 17 = .ok (.getfield 24, 3) := by decide +kernel
theorem dX3_removeAt_20 : decode prog_5_method_5_code 20 = .ok (.iconst 1, 1) := by decide +kernel
theorem dX3_removeAt_21 : decode prog_5_method_5_code 21 = .ok (.isub, 1) := by decide +kernel
theorem dX3_removeAt_22 : decode prog_5_method_5_code 22 = .ok (.if_icmp .ge 51, 3) := by decide +kernel
theorem dX3_removeAt_25 : decode prog_5_method_5_code 25 = .ok (.aload_n 0, 1) := by decide +kernel
theorem dX3_removeAt_26 : decode prog_5_method_5_code 26 = .ok (.getfield 11, 3) := by decide +kernel
theorem dX3_removeAt_29 : decode prog_5_method_5_code 29 = .ok (.iload_n 2, 1) := by decide +kernel
theorem dX3_removeAt_30 : decode prog_5_method_5_code 30 = .ok (.aload_n 0, 1) := by decide +kernel
theorem dX3_removeAt_31 : decode prog_5_method_5_code 31 = .ok (.getfield 11, 3) := by decide +kernel
theorem dX3_removeAt_34 : decode prog_5_method_5_code 34 = .ok (.iload_n 2, 1) := by decide +kernel
theorem dX3_removeAt_35 : decode prog_5_method_5_code 35 = .ok (.iconst 1, 1) := by decide +kernel
theorem dX3_removeAt_36 : decode prog_5_method_5_code 36 = .ok (.iadd, 1) := by decide +kernel
theorem dX3_removeAt_37 : decode prog_5_method_5_code 37 = .ok (.aaload, 1) := by decide +kernel
theorem dX3_removeAt_38 : decode prog_5_method_5_code 38 = .ok (.aastore, 1) := by decide +kernel
theorem dX3_removeAt_39 : decode prog_5_method_5_code 39 = .ok (.aload_n 0, 1) := by decide +kernel
theorem dX3_removeAt_40 : decode prog_5_method_5_code 40 = .ok (.getfield 17, 3) := by decide +kernel
theorem dX3_removeAt_43 : decode prog_5_method_5_code 43 = .ok (.iload_n 2, 1) := by decide +kernel
theorem dX3_removeAt_44 : decode prog_5_method_5_code 44 = .ok (.aload_n 0, 1) := by decide +kernel
theorem dX3_removeAt_45 : decode prog_5_method_5_code 45 = .ok (.getfield 17, 3) := by decide +kernel
theorem dX3_removeAt_48 : decode prog_5_method_5_code 48 = .ok (.iload_n 2, 1) := by decide +kernel
theorem dX3_removeAt_49 : decode prog_5_method_5_code 49 = .ok (.iconst 1, 1) := by decide +kernel
theorem dX3_removeAt_50 : decode prog_5_method_5_code 50 = .ok (.iadd, 1) := by decide +kernel
theorem dX3_removeAt_51 : decode prog_5_method_5_code 51 = .ok (.daload, 1) := by decide +kernel
theorem dX3_removeAt_52 : decode prog_5_method_5_code 52 = .ok (.dastore, 1) := by decide +kernel
theorem dX3_removeAt_53 : decode prog_5_method_5_code 53 = .ok (.aload_n 0, 1) := by decide +kernel
theorem dX3_removeAt_54 : decode prog_5_method_5_code 54 = .ok (.getfield 21, 3) := by decide +kernel
theorem dX3_removeAt_57 : decode prog_5_method_5_code 57 = .ok (.iload_n 2, 1) := by decide +kernel
theorem dX3_removeAt_58 : decode prog_5_method_5_code 58 = .ok (.aload_n 0, 1) := by decide +kernel
theorem dX3_removeAt_59 : decode prog_5_method_5_code 59 = .ok (.getfield 21, 3) := by decide +kernel
theorem dX3_removeAt_62 : decode prog_5_method_5_code 62 = .ok (.iload_n 2, 1) := by decide +kernel
theorem dX3_removeAt_63 : decode prog_5_method_5_code 63 = .ok (.iconst 1, 1) := by decide +kernel
theorem dX3_removeAt_64 : decode prog_5_method_5_code 64 = .ok (.iadd, 1) := by decide +kernel
theorem dX3_removeAt_65 : decode prog_5_method_5_code 65 = .ok (.daload, 1) := by decide +kernel
theorem dX3_removeAt_66 : decode prog_5_method_5_code 66 = .ok (.dastore, 1) := by decide +kernel
theorem dX3_removeAt_67 : decode prog_5_method_5_code 67 = .ok (.iinc 2 1, 3) := by decide +kernel
theorem dX3_removeAt_70 : decode prog_5_method_5_code 70 = .ok (.goto (-55), 3) := by decide +kernel
theorem dX3_removeAt_73 : decode prog_5_method_5_code 73 = .ok (.aload_n 0, 1) := by decide +kernel
theorem dX3_removeAt_74 : decode prog_5_method_5_code 74 = .ok (.dup, 1) := by decide +kernel
theorem dX3_removeAt_75 : decode prog_5_method_5_code 75 = .ok (.getfield 24, 3) := by decide +kernel
theorem dX3_removeAt_78 : decode prog_5_method_5_code 78 = .ok (.iconst 1, 1) := by decide +kernel
theorem dX3_removeAt_79 : decode prog_5_method_5_code 79 = .ok (.isub, 1) := by decide +kernel
theorem dX3_removeAt_80 : decode prog_5_method_5_code 80 = .ok (.putfield 24, 3) := by decide +kernel
theorem dX3_removeAt_83 : decode prog_5_method_5_code 83 = .ok (.return_, 1) := by decide +kernel
def wpX3_removeAt_15 (K : KX) (post : gS → Prop) : Nat → Int32 → Int32 → gS → Prop
  | 0 => fun _ _ _ => False
  | n + 1 => fun l1 l2 u => ((((sI u 6) - 1) ≤ l2 → (∀ u4 : gS, u4 = tI u 6 ((sI u 6) - 1) → (post u4))) ∧ (¬ ((sI u 6) - 1) ≤ l2 → (vp_in (l2 + 1) 10 ∧ (∀ r5 : Option Nat, r5 = sQ u 2 (l2 + 1).toNatClampNeg → ((∀ y9 : Nat, r5 = some y9 → y9 ∈ K.2.2.1) ∧ (vp_in l2 10 ∧ (∀ u7 : gS, u7 = tQ u 2 l2.toNatClampNeg r5 → (vp_in (l2 + 1) 10 ∧ (vp_in l2 10 ∧ (∀ u8 : gS, u8 = tB u7 1 l2.toNatClampNeg (sB u7 1 (l2 + 1).toNatClampNeg) → (vp_in (l2 + 1) 10 ∧ (vp_in l2 10 ∧ (∀ u9 : gS, u9 = tB u8 2 l2.toNatClampNeg (sB u8 2 (l2 + 1).toNatClampNeg) → (∀ x10 : Int32, x10 = l2 + 1 → (wpX3_removeAt_15 K post n l1 x10 u9)))))))))))))))

def wpX3_removeAt (K : KX) (post : gS → Prop) (u : gS) (p1 : Int32) : Prop :=
  ((p1 < 0 → (post u)) ∧ (¬ p1 < 0 → (((p1 < (sI u 6) → (∃ n15 : Nat, wpX3_removeAt_15 K post n15 p1 p1 u)) ∧ (¬ p1 < (sI u 6) → (post u))))))

set_option maxHeartbeats 8000000 in
set_option maxRecDepth 100000 in
theorem wpX3_removeAt_15_ok {p : Program} {l : Launch} {e : Env} {s : State} {m : MethodId} {args : Array Value} {below : List Frame} {meth : Method} {c : Code} {dC : Nat → ClassId} {dI : Nat → Nat → Nat} {ad : Nat → Nat} {ca : Nat → ClassId} {K : KX} {A : Nat → Prop} {post : gS → Prop}   (hx : p.tables.exec = Jvm.exec) (hb : c.code = prog_5_method_5_code) (hr : meth.sig.returnType = none) (hml : c.maxLocals = 3) (hown : s.vm.findClass RX3 = some m.cls) (hts : ∀ w ∈ gW, w.before args s = true) (hlocks : meth.locks = false) (hK : va_K (dC, dI) vwCl (xT ca) s) (hA : ∀ q, s.heap.size ≤ q → A q) (hE : xE A s s.heap) :
    ∀ (n : Nat) (l1 : Int32) (l2 : Int32) (u : gS) (H : Heap) (locs : List Loc) (ls : Array Slot), wpX3_removeAt_15 K post n l1 l2 u → va_P (dC, dI) vwCl (wX ad ca K u) H → va_D A (wX ad ca K u) → va_S A s.heap H locs → lv_has ls 3 [(0, .ref (ad 7)), (1, .int l1), (2, .int l2)] → W p l e (headSpec (gw ⟨"WorkHall$Timetable", "removeAt", "(I)V"⟩ prog_5_method_5_code 3 none) ({ frames := 1, cells := 0, slots := 0, locals := 40 } : Room)).room s m args below meth c H locs 0 0 (MQ below (va_Qv post (gAt (dC, dI) vwCl (xT ca) (wX ad ca K) (A)) (A)) args s 0 0 A) (F0 m 15 ls []) := by
  intro n
  induction n with
  | zero => exact fun _ _ _ _ _ _ h => h.elim
  | succ n ih =>
    intro l1 l2 u H locs ls h hP hD hS hl
    refine lv_iload_n hx hb dX3_removeAt_15 rfl (lv_at hl 2 rfl) ?_
    refine lv_aload_n hx hb dX3_removeAt_16 rfl (lv_at hl 0 rfl) ?_
    refine va_get (D := (dC, dI)) (ci := 3) (v := .int (sI u 6)) (C := RX3) (T := TX3) (N := 4) hx hb hts uwX3 hown hK hP 7 rfl rfl 3 (by decide) (hts _ wd_152) (fun _ h9 => h9) rfl dX3_removeAt_17 ?_
    refine lv_iconst (v := 1) hx hb dX3_removeAt_20 (by decide) ?_
    refine lv_isub hx hb dX3_removeAt_21 ?_
    refine lv_icmp_ge (tgt := 73) hx hb dX3_removeAt_22 (by decide) (fun c3 => ?_) (fun c3 => ?_)
    · have h := h.1 c3
      refine lv_aload_n hx hb dX3_removeAt_73 rfl (lv_at hl 0 rfl) ?_
      refine lv_dup hx hb dX3_removeAt_74 rfl ?_
      refine va_get (D := (dC, dI)) (ci := 3) (v := .int (sI u 6)) (C := RX3) (T := TX3) (N := 4) hx hb hts uwX3 hown hK hP 7 rfl rfl 3 (by decide) (hts _ wd_152) (fun _ h9 => h9) rfl dX3_removeAt_75 ?_
      refine lv_iconst (v := 1) hx hb dX3_removeAt_78 (by decide) ?_
      refine lv_isub hx hb dX3_removeAt_79 ?_
      refine va_put (D := (dC, dI)) (ci := 3) (v := .int ((sI u 6) - 1)) (ty := tyX3 3) (C := RX3) (T := TX3) (N := 4) hx hb hts uwX3 tyX3 tyX3_ok nmX3 hown hK hP hD hS 7 rfl rfl 3 (by decide) (hts _ wd_152) (fun _ h9 => h9) rfl (tyX3_ok 3 (by decide)) rfl rfl (Nat.le_of_ble_eq_true rfl) dX3_removeAt_80 (fun H locs hP hD hS => ?_)
      obtain ⟨u4, eu4⟩ : ∃ z : gS, z = tI u 6 ((sI u 6) - 1) := ⟨_, rfl⟩
      have hP : va_P (dC, dI) vwCl (wX ad ca K u4) H := by rw [eu4, wX_f7_size]; exact hP
      have hD : va_D A (wX ad ca K u4) := by rw [eu4, wX_f7_size]; exact hD
      have h := h u4 eu4
      exact gr_v (w := wX ad ca K) (u := u4) hx hb hr hlocks h hP hK hD hS dX3_removeAt_83
    · have h := h.2 c3
      refine lv_aload_n hx hb dX3_removeAt_25 rfl (lv_at hl 0 rfl) ?_
      refine va_get (D := (dC, dI)) (ci := 3) (v := .ref (ad 8)) (C := RX3) (T := TX3) (N := 4) hx hb hts uwX3 hown hK hP 7 rfl rfl 0 (by decide) (hts _ wd_146) (fun _ h9 => h9) rfl dX3_removeAt_26 ?_
      refine lv_iload_n hx hb dX3_removeAt_29 rfl (lv_at hl 2 rfl) ?_
      refine lv_aload_n hx hb dX3_removeAt_30 rfl (lv_at hl 0 rfl) ?_
      refine va_get (D := (dC, dI)) (ci := 3) (v := .ref (ad 8)) (C := RX3) (T := TX3) (N := 4) hx hb hts uwX3 hown hK hP 7 rfl rfl 0 (by decide) (hts _ wd_146) (fun _ h9 => h9) rfl dX3_removeAt_31 ?_
      refine lv_iload_n hx hb dX3_removeAt_34 rfl (lv_at hl 2 rfl) ?_
      refine lv_iconst (v := 1) hx hb dX3_removeAt_35 (by decide) ?_
      refine lv_iadd hx hb dX3_removeAt_36 ?_
      refine va_aldq (C := RX5) hx hb hK hP 8 0 rfl rfl h.1 dX3_removeAt_37 ?_
      have h := h.2
      refine gq_top (fun r5 er5 => ?_)
      have h := h r5 er5
      obtain ⟨hy6, h⟩ := h
      refine gq_aast (v := r5) (r := (RX5, TX5, 9)) hx hb hK hP hD hS 8 0 5 rfl rfl (fun y9 e9 => by obtain ⟨k9, hk9⟩ := xJ_get (hy6 y9 e9); exact ⟨k9, _, hk9⟩) rfl h.1 dX3_removeAt_38 (fun H locs hP hD hS => ?_)
      have h := h.2
      obtain ⟨u7, eu7⟩ : ∃ z : gS, z = tQ u 2 l2.toNatClampNeg r5 := ⟨_, rfl⟩
      have hP : va_P (dC, dI) vwCl (wX ad ca K u7) H := by rw [eu7, wX_a8]; exact hP
      have hD : va_D A (wX ad ca K u7) := by rw [eu7, wX_a8]; exact hD
      have h := h u7 eu7
      refine lv_aload_n hx hb dX3_removeAt_39 rfl (lv_at hl 0 rfl) ?_
      refine va_get (D := (dC, dI)) (ci := 3) (v := .ref (ad 9)) (C := RX3) (T := TX3) (N := 4) hx hb hts uwX3 hown hK hP 7 rfl rfl 1 (by decide) (hts _ wd_148) (fun _ h9 => h9) rfl dX3_removeAt_40 ?_
      refine lv_iload_n hx hb dX3_removeAt_43 rfl (lv_at hl 2 rfl) ?_
      refine lv_aload_n hx hb dX3_removeAt_44 rfl (lv_at hl 0 rfl) ?_
      refine va_get (D := (dC, dI)) (ci := 3) (v := .ref (ad 9)) (C := RX3) (T := TX3) (N := 4) hx hb hts uwX3 hown hK hP 7 rfl rfl 1 (by decide) (hts _ wd_148) (fun _ h9 => h9) rfl dX3_removeAt_45 ?_
      refine lv_iload_n hx hb dX3_removeAt_48 rfl (lv_at hl 2 rfl) ?_
      refine lv_iconst (v := 1) hx hb dX3_removeAt_49 (by decide) ?_
      refine lv_iadd hx hb dX3_removeAt_50 ?_
      refine va_dald hx hb hK hP 9 2 rfl rfl h.1 dX3_removeAt_51 ?_
      have h := h.2
      refine va_dast hx hb hK hP hD hS 9 2 rfl rfl h.1 dX3_removeAt_52 (fun H locs hP hD hS => ?_)
      have h := h.2
      obtain ⟨u8, eu8⟩ : ∃ z : gS, z = tB u7 1 l2.toNatClampNeg (sB u7 1 (l2 + 1).toNatClampNeg) := ⟨_, rfl⟩
      have hP : va_P (dC, dI) vwCl (wX ad ca K u8) H := by rw [eu8, wX_a9]; exact hP
      have hD : va_D A (wX ad ca K u8) := by rw [eu8, wX_a9]; exact hD
      have h := h u8 eu8
      refine lv_aload_n hx hb dX3_removeAt_53 rfl (lv_at hl 0 rfl) ?_
      refine va_get (D := (dC, dI)) (ci := 3) (v := .ref (ad 10)) (C := RX3) (T := TX3) (N := 4) hx hb hts uwX3 hown hK hP 7 rfl rfl 2 (by decide) (hts _ wd_150) (fun _ h9 => h9) rfl dX3_removeAt_54 ?_
      refine lv_iload_n hx hb dX3_removeAt_57 rfl (lv_at hl 2 rfl) ?_
      refine lv_aload_n hx hb dX3_removeAt_58 rfl (lv_at hl 0 rfl) ?_
      refine va_get (D := (dC, dI)) (ci := 3) (v := .ref (ad 10)) (C := RX3) (T := TX3) (N := 4) hx hb hts uwX3 hown hK hP 7 rfl rfl 2 (by decide) (hts _ wd_150) (fun _ h9 => h9) rfl dX3_removeAt_59 ?_
      refine lv_iload_n hx hb dX3_removeAt_62 rfl (lv_at hl 2 rfl) ?_
      refine lv_iconst (v := 1) hx hb dX3_removeAt_63 (by decide) ?_
      refine lv_iadd hx hb dX3_removeAt_64 ?_
      refine va_dald hx hb hK hP 10 2 rfl rfl h.1 dX3_removeAt_65 ?_
      have h := h.2
      refine va_dast hx hb hK hP hD hS 10 2 rfl rfl h.1 dX3_removeAt_66 (fun H locs hP hD hS => ?_)
      have h := h.2
      obtain ⟨u9, eu9⟩ : ∃ z : gS, z = tB u8 2 l2.toNatClampNeg (sB u8 2 (l2 + 1).toNatClampNeg) := ⟨_, rfl⟩
      have hP : va_P (dC, dI) vwCl (wX ad ca K u9) H := by rw [eu9, wX_a10]; exact hP
      have hD : va_D A (wX ad ca K u9) := by rw [eu9, wX_a10]; exact hD
      have h := h u9 eu9
      obtain ⟨x10, ex10⟩ : ∃ y : Int32, y = l2 + 1 := ⟨_, rfl⟩
      have h := h x10 ex10
      refine lv_iinc (v := x10) (lv' := [(2, .int x10), (0, .ref (ad 7)), (1, .int l1)]) hx hb dX3_removeAt_67 hl (k := 2) rfl (by rw [ex10]; rfl) (by decide) rfl (fun ls hl => ?_)
      refine lv_goto (tgt := 15) hx hb dX3_removeAt_70 (by decide) ?_
      exact ih l1 x10 u9 _ _ _ h hP hD hS (lv_sub hl [1, 2, 0] rfl)

set_option maxHeartbeats 8000000 in
set_option maxRecDepth 100000 in
theorem cX3_removeAt (l : Launch) (dC : Nat → ClassId) (dI : Nat → Nat → Nat) (ad : Nat → Nat) (ca : Nat → ClassId) (K : KX) (sz : Nat) (u : gS) (p1 : Int32) (post : gS → Prop)  (h : wpX3_removeAt K post u p1) : Met l ⟨"WorkHall$Timetable", "removeAt", "(I)V"⟩ (gw ⟨"WorkHall$Timetable", "removeAt", "(I)V"⟩ prog_5_method_5_code 3 none) ({ frames := 1, cells := 0, slots := 0, locals := 40 } : Room) (va_Pc [.ref (ad 7), .int p1] (gB (dC, dI) vwCl (xT ca) xE (wX ad ca K u) sz)) (va_Qv post (gAt (dC, dI) vwCl (xT ca) (wX ad ca K) (va_A (wX ad ca K u) sz)) (va_A (wX ad ca K u) sz)) 0 0 (va_A (wX ad ca K u) sz) := by
  refine Met.ofW (cc := prog_5_method_5_code) (maxL := 3) (ret := none) (by decide) rfl ?_
  intro p e s m args below meth c s₁ B hml hv
  obtain ⟨rfl, hsz, hP, hK, hD0, hE⟩ := hv
  have hx := B.exec
  have hb := B.bytes
  have hr := B.returns
  have hts : ∀ w ∈ gW, w.before _ s = true := fun w h9 => atoms_spec (ws := (gw ⟨"WorkHall$Timetable", "removeAt", "(I)V"⟩ prog_5_method_5_code 3 none)) B.pre w (List.mem_cons_of_mem _ h9)
  have hown : s.vm.findClass RX3 = some m.cls := findClass_of_methodNamed B.named
  have hlocks := B.notSynchronized
  subst hsz
  have hD := hD0.self (sz := s.heap.size)
  generalize hAe : va_A (wX ad ca K u) s.heap.size = A at hD hE ⊢
  have hA : ∀ q : Nat, s.heap.size ≤ q → A q := fun q h => by rw [← hAe]; exact Or.inr h
  obtain ⟨H, hHe⟩ : ∃ z : Heap, z = s.heap := ⟨_, rfl⟩
  rw [← hHe]
  have hS : va_S A s.heap H [] := by rw [hHe]; exact va_S.rf
  have hP : va_P (dC, dI) vwCl (wX ad ca K u) H := by rw [hHe]; exact hP
  have hl := lv_entry ([.ref (ad 7), .int p1]) (n := 3) (Nat.le_of_ble_eq_true rfl)
  rw [lg_entry_eq]
  generalize (lg_sl ([.ref (ad 7), .int p1]) ++ List.replicate (3 - (lg_sl ([.ref (ad 7), .int p1])).length) Slot.unset).toArray = ls at hl ⊢
  have hl : lv_has ls 3 [(0, .ref (ad 7)), (1, .int p1)] := hl
  clear hAe
  refine lv_iload_n hx hb dX3_removeAt_0 rfl (lv_at hl 1 rfl) ?_
  refine lv_if_lt (tgt := 12) hx hb dX3_removeAt_1 (by decide) (fun c1 => ?_) (fun c1 => ?_)
  · have h := h.1 c1
    exact gr_v (w := wX ad ca K) (u := u) hx hb hr hlocks h hP hK hD hS dX3_removeAt_12
  · have h := h.2 c1
    refine lv_iload_n hx hb dX3_removeAt_4 rfl (lv_at hl 1 rfl) ?_
    refine lv_aload_n hx hb dX3_removeAt_5 rfl (lv_at hl 0 rfl) ?_
    refine va_get (D := (dC, dI)) (ci := 3) (v := .int (sI u 6)) (C := RX3) (T := TX3) (N := 4) hx hb hts uwX3 hown hK hP 7 rfl rfl 3 (by decide) (hts _ wd_152) (fun _ h9 => h9) rfl dX3_removeAt_6 ?_
    refine lv_icmp_lt (tgt := 13) hx hb dX3_removeAt_9 (by decide) (fun c2 => ?_) (fun c2 => ?_)
    · have h := h.1 c2
      refine lv_iload_n hx hb dX3_removeAt_13 rfl (lv_at hl 1 rfl) ?_
      refine lv_istore_n (lv' := [(2, .int p1), (0, .ref (ad 7)), (1, .int p1)]) hx hb dX3_removeAt_14 rfl hl (by decide) rfl (fun ls hl => ?_)
      obtain ⟨n15, h⟩ := h
      exact wpX3_removeAt_15_ok hx hb hr hml hown hts hlocks hK hA hE n15 p1 p1 u _ _ _ h hP hD hS (lv_sub hl [1, 2, 0] rfl)
    · have h := h.2 c2
      exact gr_v (w := wX ad ca K) (u := u) hx hb hr hlocks h hP hK hD hS dX3_removeAt_12

theorem dX0_clamp_0 : decode prog_1_method_16_code 0 = .ok (.iload_n 0, 1) := by decide +kernel
theorem dX0_clamp_1 : decode prog_1_method_16_code 1 = .ok (.iload_n 1, 1) := by decide +kernel
theorem dX0_clamp_2 : decode prog_1_method_16_code 2 = .ok (.invokestatic 57, 3) := by decide +kernel
theorem dX0_clamp_5 : decode prog_1_method_16_code 5 = .ok (.iload_n 2, 1) := by decide +kernel
theorem dX0_clamp_6 : decode prog_1_method_16_code 6 = .ok (.invokestatic 236, 3) := by decide +kernel
theorem dX0_clamp_9 : decode prog_1_method_16_code 9 = .ok (.ireturn, 1) := by decide +kernel
def wpX0_clamp (K : KX) (post : Int32 → gS → Prop) (u : gS) (p1 : Int32) (p2 : Int32) (p3 : Int32) : Prop :=
  post (if p3 < (if p1 < p2 then p2 else p1) then p3 else (if p1 < p2 then p2 else p1)) u

set_option maxHeartbeats 8000000 in
set_option maxRecDepth 100000 in
theorem cX0_clamp (l : Launch) (dC : Nat → ClassId) (dI : Nat → Nat → Nat) (ad : Nat → Nat) (ca : Nat → ClassId) (K : KX) (sz : Nat) (u : gS) (p1 : Int32) (p2 : Int32) (p3 : Int32) (post : Int32 → gS → Prop)  (h : wpX0_clamp K post u p1 p2 p3) : Met l ⟨"WorkHall", "clamp", "(III)I"⟩ (gw ⟨"WorkHall", "clamp", "(III)I"⟩ prog_1_method_16_code 3 (some .int)) ({ frames := 2, cells := 0, slots := 0, locals := 80 } : Room) (va_Pc [.int p1, .int p2, .int p3] (gB (dC, dI) vwCl (xT ca) xE (wX ad ca K u) sz)) (va_Qi post (gAt (dC, dI) vwCl (xT ca) (wX ad ca K) (va_A (wX ad ca K u) sz)) (va_A (wX ad ca K u) sz)) 0 0 (va_A (wX ad ca K u) sz) := by
  refine Met.ofW (cc := prog_1_method_16_code) (maxL := 3) (ret := (some .int)) (by decide) rfl ?_
  intro p e s m args below meth c s₁ B hml hv
  obtain ⟨rfl, hsz, hP, hK, hD0, hE⟩ := hv
  have hx := B.exec
  have hb := B.bytes
  have hr := B.returns
  have hts : ∀ w ∈ gW, w.before _ s = true := fun w h9 => atoms_spec (ws := (gw ⟨"WorkHall", "clamp", "(III)I"⟩ prog_1_method_16_code 3 (some .int))) B.pre w (List.mem_cons_of_mem _ h9)
  have hown : s.vm.findClass RX0 = some m.cls := findClass_of_methodNamed B.named
  have hlocks := B.notSynchronized
  subst hsz
  have hD := hD0.self (sz := s.heap.size)
  generalize hAe : va_A (wX ad ca K u) s.heap.size = A at hD hE ⊢
  have hA : ∀ q : Nat, s.heap.size ≤ q → A q := fun q h => by rw [← hAe]; exact Or.inr h
  obtain ⟨H, hHe⟩ : ∃ z : Heap, z = s.heap := ⟨_, rfl⟩
  rw [← hHe]
  have hS : va_S A s.heap H [] := by rw [hHe]; exact va_S.rf
  have hP : va_P (dC, dI) vwCl (wX ad ca K u) H := by rw [hHe]; exact hP
  have hl := lv_entry ([.int p1, .int p2, .int p3]) (n := 3) (Nat.le_of_ble_eq_true rfl)
  rw [lg_entry_eq]
  generalize (lg_sl ([.int p1, .int p2, .int p3]) ++ List.replicate (3 - (lg_sl ([.int p1, .int p2, .int p3])).length) Slot.unset).toArray = ls at hl ⊢
  have hl : lv_has ls 3 [(0, .int p1), (1, .int p2), (2, .int p3)] := hl
  clear hAe
  refine lv_iload_n hx hb dX0_clamp_0 rfl (lv_at hl 0 rfl) ?_
  refine lv_iload_n hx hb dX0_clamp_1 rfl (lv_at hl 1 rfl) ?_
  refine va_mmax hx hb (hml.trans hl.1.symm) hown (hts _ wd_166) (hts _ wd_167) (hts _ wd_51) (hts _ wm_max) (Nat.le_of_ble_eq_true rfl) (Nat.le_of_ble_eq_true rfl) (Nat.zero_le _) (Nat.zero_le _) dX0_clamp_2 ?_
  refine lv_iload_n hx hb dX0_clamp_5 rfl (lv_at hl 2 rfl) ?_
  refine va_mmin hx hb (hml.trans hl.1.symm) hown (hts _ wd_169) (hts _ wd_170) (hts _ wd_51) (hts _ wm_min) (Nat.le_of_ble_eq_true rfl) (Nat.le_of_ble_eq_true rfl) (Nat.zero_le _) (Nat.zero_le _) dX0_clamp_6 ?_
  exact gr_i (w := wX ad ca K) (u := u) hx hb hr hlocks h hP hK hD hS dX0_clamp_9

theorem dX0_find_0 : decode prog_1_method_20_code 0 = .ok (.iload_n 1, 1) := by decide +kernel
theorem dX0_find_1 : decode prog_1_method_20_code 1 = .ok (.ifCond .lt 20, 3) := by decide +kernel
theorem dX0_find_4 : decode prog_1_method_20_code 4 = .ok (.iload_n 1, 1) := by decide +kernel
theorem dX0_find_5 : decode prog_1_method_20_code 5 = .ok (.aload_n 0, 1) := by decide +kernel
theorem dX0_find_6 : decode prog_1_method_20_code 6 = .ok (.getfield 36, 3) := by decide +kernel
theorem dX0_find_9 : decode prog_1_method_20_code 9 = .ok (.if_icmp .ge 12, 3) := by decide +kernel
theorem dX0_find_12 : decode prog_1_method_20_code 12 = .ok (.aload_n 0, 1) := by decide +kernel
theorem dX0_find_13 : decode prog_1_method_20_code 13 = .ok (.getfield 11, 3) := by decide +kernel
theorem dX0_find_16 : decode prog_1_method_20_code 16 = .ok (.iload_n 1, 1) := by decide +kernel
theorem dX0_find_17 : decode prog_1_method_20_code 17 = .ok (.aaload, 1) := by decide +kernel
theorem dX0_find_18 : decode prog_1_method_20_code 18 = .ok (.goto 4, 3) := by decide +kernel
theorem dX0_find_21 : decode prog_1_method_20_code 21 = .ok (.aconst_null, 1) := by decide +kernel
theorem dX0_find_22 : decode prog_1_method_20_code 22 = .ok (.areturn, 1) := by decide +kernel
def wpX0_find (K : KX) (post : Option Nat → gS → Prop) (u : gS) (p1 : Int32) : Prop :=
  ((p1 < 0 → (post none u)) ∧ (¬ p1 < 0 → ((((K.1 4) ≤ p1 → (post none u)) ∧ (¬ (K.1 4) ≤ p1 → (vp_in p1 24 ∧ (∀ r3 : Option Nat, r3 = K.2.2.2.2 p1.toNatClampNeg → (post r3 u))))))))

set_option maxHeartbeats 8000000 in
set_option maxRecDepth 100000 in
theorem cX0_find (l : Launch) (dC : Nat → ClassId) (dI : Nat → Nat → Nat) (ad : Nat → Nat) (ca : Nat → ClassId) (K : KX) (sz : Nat) (u : gS) (p1 : Int32) (post : Option Nat → gS → Prop)  (h : wpX0_find K post u p1) : Met l ⟨"WorkHall", "find", "(I)LWorkHall$Job;"⟩ (gw ⟨"WorkHall", "find", "(I)LWorkHall$Job;"⟩ prog_1_method_20_code 2 (some (.object "WorkHall$Job"))) ({ frames := 1, cells := 0, slots := 0, locals := 40 } : Room) (va_Pc [.ref (ad 0), .int p1] (gB (dC, dI) vwCl (xT ca) xE (wX ad ca K u) sz)) (va_Qq post (gAt (dC, dI) vwCl (xT ca) (wX ad ca K) (va_A (wX ad ca K u) sz)) (va_A (wX ad ca K u) sz)) 0 0 (va_A (wX ad ca K u) sz) := by
  refine Met.ofW (cc := prog_1_method_20_code) (maxL := 2) (ret := (some (.object "WorkHall$Job"))) (by decide) rfl ?_
  intro p e s m args below meth c s₁ B hml hv
  obtain ⟨rfl, hsz, hP, hK, hD0, hE⟩ := hv
  have hx := B.exec
  have hb := B.bytes
  have hr := B.returns
  have hts : ∀ w ∈ gW, w.before _ s = true := fun w h9 => atoms_spec (ws := (gw ⟨"WorkHall", "find", "(I)LWorkHall$Job;"⟩ prog_1_method_20_code 2 (some (.object "WorkHall$Job")))) B.pre w (List.mem_cons_of_mem _ h9)
  have hown : s.vm.findClass RX0 = some m.cls := findClass_of_methodNamed B.named
  have hlocks := B.notSynchronized
  subst hsz
  have hD := hD0.self (sz := s.heap.size)
  generalize hAe : va_A (wX ad ca K u) s.heap.size = A at hD hE ⊢
  have hA : ∀ q : Nat, s.heap.size ≤ q → A q := fun q h => by rw [← hAe]; exact Or.inr h
  obtain ⟨H, hHe⟩ : ∃ z : Heap, z = s.heap := ⟨_, rfl⟩
  rw [← hHe]
  have hS : va_S A s.heap H [] := by rw [hHe]; exact va_S.rf
  have hP : va_P (dC, dI) vwCl (wX ad ca K u) H := by rw [hHe]; exact hP
  have hl := lv_entry ([.ref (ad 0), .int p1]) (n := 2) (Nat.le_of_ble_eq_true rfl)
  rw [lg_entry_eq]
  generalize (lg_sl ([.ref (ad 0), .int p1]) ++ List.replicate (2 - (lg_sl ([.ref (ad 0), .int p1])).length) Slot.unset).toArray = ls at hl ⊢
  have hl : lv_has ls 2 [(0, .ref (ad 0)), (1, .int p1)] := hl
  clear hAe
  refine lv_iload_n hx hb dX0_find_0 rfl (lv_at hl 1 rfl) ?_
  refine lv_if_lt (tgt := 21) hx hb dX0_find_1 (by decide) (fun c1 => ?_) (fun c1 => ?_)
  · have h := h.1 c1
    refine lv_null hx hb dX0_find_21 ?_
    exact gr_q (w := wX ad ca K) (u := u) (v := none) hx hb hr hlocks h hP hK hD hS dX0_find_22
  · have h := h.2 c1
    refine lv_iload_n hx hb dX0_find_4 rfl (lv_at hl 1 rfl) ?_
    refine lv_aload_n hx hb dX0_find_5 rfl (lv_at hl 0 rfl) ?_
    refine va_get (D := (dC, dI)) (ci := 0) (v := .int (K.1 4)) (C := RX0) (T := TX0) (N := 12) hx hb hts uwX0 hown hK hP 0 rfl rfl 8 (by decide) (hts _ wd_180) (fun _ h9 => h9) rfl dX0_find_6 ?_
    refine lv_icmp_ge (tgt := 21) hx hb dX0_find_9 (by decide) (fun c2 => ?_) (fun c2 => ?_)
    · have h := h.1 c2
      refine lv_null hx hb dX0_find_21 ?_
      exact gr_q (w := wX ad ca K) (u := u) (v := none) hx hb hr hlocks h hP hK hD hS dX0_find_22
    · have h := h.2 c2
      refine lv_aload_n hx hb dX0_find_12 rfl (lv_at hl 0 rfl) ?_
      refine va_get (D := (dC, dI)) (ci := 0) (v := .ref (ad 1)) (C := RX0) (T := TX0) (N := 12) hx hb hts uwX0 hown hK hP 0 rfl rfl 4 (by decide) (hts _ wd_176) (fun _ h9 => h9) rfl dX0_find_13 ?_
      refine lv_iload_n hx hb dX0_find_16 rfl (lv_at hl 1 rfl) ?_
      refine va_aldq (C := RX5) hx hb hK hP 1 0 rfl rfl h.1 dX0_find_17 ?_
      have h := h.2
      refine gq_top (fun r3 er3 => ?_)
      have h := h r3 er3
      refine lv_goto (tgt := 22) hx hb dX0_find_18 (by decide) ?_
      exact gr_q (w := wX ad ca K) (u := u) (v := r3) hx hb hr hlocks h hP hK hD hS dX0_find_22

theorem dX0_placeOf_0 : decode prog_1_method_21_code 0 = .ok (.aload_n 1, 1) := by decide +kernel
theorem dX0_placeOf_1 : decode prog_1_method_21_code 1 = .ok (.getfield 90, 3) := by decide +kernel
theorem dX0_placeOf_4 : decode prog_1_method_21_code 4 = .ok (.iconst 1, 1) := by decide +kernel
theorem dX0_placeOf_5 : decode prog_1_method_21_code 5 = .ok (.if_icmp .ne 12, 3) := by decide +kernel
theorem dX0_placeOf_8 : decode prog_1_method_21_code 8 = .ok (.aload_n 0, 1) := by decide +kernel
theorem dX0_placeOf_9 : decode prog_1_method_21_code 9 = .ok (.getfield 25, 3) := by decide +kernel
theorem dX0_placeOf_12 : decode prog_1_method_21_code 12 = .ok (.aload_n 1, 1) := by decide +kernel
theorem dX0_placeOf_13 : decode prog_1_method_21_code 13 = .ok (.invokevirtual 127, 3) := by decide +kernel
theorem dX0_placeOf_16 : decode prog_1_method_21_code 16 = .ok (.ireturn, 1) := by decide +kernel
theorem dX0_placeOf_17 : decode prog_1_method_21_code 17 = .ok (.aload_n 1, 1) := by decide +kernel
theorem dX0_placeOf_18 : decode prog_1_method_21_code 18 = .ok (.getfield 90, 3) := by decide +kernel
theorem dX0_placeOf_21 : decode prog_1_method_21_code 21 = .ok (.iconst 2, 1) := by decide +kernel
theorem dX0_placeOf_22 : decode prog_1_method_21_code 22 = .ok (.if_icmp .ne 14, 3) := by decide +kernel
theorem dX0_placeOf_25 : decode prog_1_method_21_code 25 = .ok (.aload_n 0, 1) := by decide +kernel
theorem dX0_placeOf_26 : decode prog_1_method_21_code 26 = .ok (.getfield 18, 3) := by decide +kernel
theorem dX0_placeOf_29 : decode prog_1_method_21_code 29 = .ok (.aload_n 1, 1) := by decide +kernel
theorem dX0_placeOf_30 : decode prog_1_method_21_code 30 = .ok (.invokevirtual 134, 3) := by decide +kernel
theorem dX0_placeOf_33 : decode prog_1_method_21_code 33 = .ok (.goto 4, 3) := by decide +kernel
theorem dX0_placeOf_36 : decode prog_1_method_21_code 36 = .ok (.iconst (-1), 1) := by decide +kernel
theorem dX0_placeOf_37 : decode prog_1_method_21_code 37 = .ok (.ireturn, 1) := by decide +kernel
def wpX0_placeOf (K : KX) (post : Int32 → gS → Prop) (u : gS) (p1 : Nat) : Prop :=
  ((¬ (sA u 0 p1) = 1 → (((¬ (sA u 0 p1) = 2 → (post (-1) u)) ∧ ((sA u 0 p1) = 2 → (wpX1_placeOf K (fun (r3 : Int32) (u4 : gS) => post r3 u4) u (some p1)))))) ∧ ((sA u 0 p1) = 1 → (wpX2_placeOf K (fun (r5 : Int32) (u6 : gS) => post r5 u6) u (some p1))))

set_option maxHeartbeats 8000000 in
set_option maxRecDepth 100000 in
theorem cX0_placeOf (l : Launch) (dC : Nat → ClassId) (dI : Nat → Nat → Nat) (ad : Nat → Nat) (ca : Nat → ClassId) (K : KX) (sz : Nat) (u : gS) (p1 : Nat) (post : Int32 → gS → Prop) (hp1 : p1 ∈ K.2.2.1) (h : wpX0_placeOf K post u p1) : Met l ⟨"WorkHall", "placeOf", "(LWorkHall$Job;)I"⟩ (gw ⟨"WorkHall", "placeOf", "(LWorkHall$Job;)I"⟩ prog_1_method_21_code 2 (some .int)) ({ frames := 2, cells := 0, slots := 0, locals := 80 } : Room) (va_Pc [.ref (ad 0), .ref p1] (gB (dC, dI) vwCl (xT ca) xE (wX ad ca K u) sz)) (va_Qi post (gAt (dC, dI) vwCl (xT ca) (wX ad ca K) (va_A (wX ad ca K u) sz)) (va_A (wX ad ca K u) sz)) 0 0 (va_A (wX ad ca K u) sz) := by
  refine Met.ofW (cc := prog_1_method_21_code) (maxL := 2) (ret := (some .int)) (by decide) rfl ?_
  intro p e s m args below meth c s₁ B hml hv
  obtain ⟨rfl, hsz, hP, hK, hD0, hE⟩ := hv
  have hx := B.exec
  have hb := B.bytes
  have hr := B.returns
  have hts : ∀ w ∈ gW, w.before _ s = true := fun w h9 => atoms_spec (ws := (gw ⟨"WorkHall", "placeOf", "(LWorkHall$Job;)I"⟩ prog_1_method_21_code 2 (some .int))) B.pre w (List.mem_cons_of_mem _ h9)
  have hown : s.vm.findClass RX0 = some m.cls := findClass_of_methodNamed B.named
  have hlocks := B.notSynchronized
  subst hsz
  have hD := hD0.self (sz := s.heap.size)
  generalize hAe : va_A (wX ad ca K u) s.heap.size = A at hD hE ⊢
  have hA : ∀ q : Nat, s.heap.size ≤ q → A q := fun q h => by rw [← hAe]; exact Or.inr h
  obtain ⟨H, hHe⟩ : ∃ z : Heap, z = s.heap := ⟨_, rfl⟩
  rw [← hHe]
  have hS : va_S A s.heap H [] := by rw [hHe]; exact va_S.rf
  have hP : va_P (dC, dI) vwCl (wX ad ca K u) H := by rw [hHe]; exact hP
  have hl := lv_entry ([.ref (ad 0), .ref p1]) (n := 2) (Nat.le_of_ble_eq_true rfl)
  rw [lg_entry_eq]
  generalize (lg_sl ([.ref (ad 0), .ref p1]) ++ List.replicate (2 - (lg_sl ([.ref (ad 0), .ref p1])).length) Slot.unset).toArray = ls at hl ⊢
  have hl : lv_has ls 2 [(0, .ref (ad 0)), (1, .ref p1)] := hl
  clear hAe
  refine lv_aload_n hx hb dX0_placeOf_0 rfl (lv_at hl 1 rfl) ?_
  obtain ⟨k9, hk9⟩ := xJ_get hp1
  refine va_get (D := (dC, dI)) (ci := 5) (v := .int (sA u 0 p1)) (C := RX5) (T := TX5) (N := 9) hx hb hts uwX5 hown hK hP k9 hk9 rfl 5 (by decide) (hts _ wd_327) (fun _ h9 => h9) rfl dX0_placeOf_1 ?_
  refine lv_iconst (v := 1) hx hb dX0_placeOf_4 (by decide) ?_
  refine lv_icmp_ne (tgt := 17) hx hb dX0_placeOf_5 (by decide) (fun c1 => ?_) (fun c1 => ?_)
  · have h := h.1 c1
    refine lv_aload_n hx hb dX0_placeOf_17 rfl (lv_at hl 1 rfl) ?_
    obtain ⟨k9, hk9⟩ := xJ_get hp1
    refine va_get (D := (dC, dI)) (ci := 5) (v := .int (sA u 0 p1)) (C := RX5) (T := TX5) (N := 9) hx hb hts uwX5 hown hK hP k9 hk9 rfl 5 (by decide) (hts _ wd_327) (fun _ h9 => h9) rfl dX0_placeOf_18 ?_
    refine lv_iconst (v := 2) hx hb dX0_placeOf_21 (by decide) ?_
    refine lv_icmp_ne (tgt := 36) hx hb dX0_placeOf_22 (by decide) (fun c2 => ?_) (fun c2 => ?_)
    · have h := h.1 c2
      refine lv_iconst (v := (-1)) hx hb dX0_placeOf_36 (by decide) ?_
      exact gr_i (w := wX ad ca K) (u := u) hx hb hr hlocks h hP hK hD hS dX0_placeOf_37
    · have h := h.2 c2
      refine lv_aload_n hx hb dX0_placeOf_25 rfl (lv_at hl 0 rfl) ?_
      refine va_get (D := (dC, dI)) (ci := 0) (v := .ref (ad 2)) (C := RX0) (T := TX0) (N := 12) hx hb hts uwX0 hown hK hP 0 rfl rfl 5 (by decide) (hts _ wd_177) (fun _ h9 => h9) rfl dX0_placeOf_26 ?_
      refine lv_aload_n hx hb dX0_placeOf_29 rfl (lv_at hl 1 rfl) ?_
      refine gc_i (w := wX ad ca K) (u := u) (va_runV (As := [va_rf (some p1)]) (rest := []) ⟨hx, hb, hml, hown, hts⟩ (cX1_placeOf l dC dI ad ca K H.size u (some p1) _ h) (cwV 1 hts (gG_V wd_545 wd_398 wd_399 wd_47 wd_400) rfl rfl rfl (by decide +kernel) ⟨Nat.le_of_ble_eq_true rfl, Nat.le_of_ble_eq_true rfl⟩) ⟨gB_blind xE_ok, va_recv hK hP (ci := 1) (q0 := 2) rfl rfl, gB_pre xE_ok hP hK hD hE hS hA⟩ rfl rfl hl.1 rfl (lv_room (Nat.le_of_ble_eq_true rfl)) dX0_placeOf_30 ⟨Nat.le_of_ble_eq_true rfl, Nat.le_of_ble_eq_true rfl⟩) hD hS hA (fun r3 u4 H locs h hP hD hS => ?_)
      refine lv_goto (tgt := 37) hx hb dX0_placeOf_33 (by decide) ?_
      exact gr_i (w := wX ad ca K) (u := u4) hx hb hr hlocks h hP hK hD hS dX0_placeOf_37
  · have h := h.2 c1
    refine lv_aload_n hx hb dX0_placeOf_8 rfl (lv_at hl 0 rfl) ?_
    refine va_get (D := (dC, dI)) (ci := 0) (v := .ref (ad 4)) (C := RX0) (T := TX0) (N := 12) hx hb hts uwX0 hown hK hP 0 rfl rfl 6 (by decide) (hts _ wd_178) (fun _ h9 => h9) rfl dX0_placeOf_9 ?_
    refine lv_aload_n hx hb dX0_placeOf_12 rfl (lv_at hl 1 rfl) ?_
    refine gc_i (w := wX ad ca K) (u := u) (va_runV (As := [va_rf (some p1)]) (rest := []) ⟨hx, hb, hml, hown, hts⟩ (cX2_placeOf l dC dI ad ca K H.size u (some p1) _ h) (cwV 1 hts (gG_V wd_541 wd_542 wd_543 wd_49 wd_544) rfl rfl rfl (by decide +kernel) ⟨Nat.le_of_ble_eq_true rfl, Nat.le_of_ble_eq_true rfl⟩) ⟨gB_blind xE_ok, va_recv hK hP (ci := 2) (q0 := 4) rfl rfl, gB_pre xE_ok hP hK hD hE hS hA⟩ rfl rfl hl.1 rfl (lv_room (Nat.le_of_ble_eq_true rfl)) dX0_placeOf_13 ⟨Nat.le_of_ble_eq_true rfl, Nat.le_of_ble_eq_true rfl⟩) hD hS hA (fun r5 u6 H locs h hP hD hS => ?_)
    exact gr_i (w := wX ad ca K) (u := u6) hx hb hr hlocks h hP hK hD hS dX0_placeOf_16
end
section
theorem dX0_sum_0 : decode prog_1_method_25_code 0 = .ok (.aload_n 0, 1) := by decide +kernel
theorem dX0_sum_1 : decode prog_1_method_25_code 1 = .ok (.aload_n 1, 1) := by decide +kernel
theorem dX0_sum_2 : decode prog_1_method_25_code 2 = .ok (.getfield 267, 3) := by decide +kernel
theorem dX0_sum_5 : decode prog_1_method_25_code 5 = .ok (.invokevirtual 241, 3) := by decide +kernel
theorem dX0_sum_8 : decode prog_1_method_25_code 8 = .ok (.astore_n 2, 1) := by decide +kernel
theorem dX0_sum_9 : decode prog_1_method_25_code 9 = .ok (.aload_n 0, 1) := by decide +kernel
theorem dX0_sum_10 : decode prog_1_method_25_code 10 = .ok (.aload_n 1, 1) := by decide +kernel
theorem dX0_sum_11 : decode prog_1_method_25_code 11 = .ok (.getfield 288, 3) := by decide +kernel
theorem dX0_sum_14 : decode prog_1_method_25_code 14 = .ok (.invokevirtual 241, 3) := by decide +kernel
theorem dX0_sum_17 : decode prog_1_method_25_code 17 = .ok (.astore_n 3, 1) := by decide +kernel
theorem dX0_sum_18 : decode prog_1_method_25_code 18 = .ok (.aload_n 2, 1) := by decide +kernel
theorem dX0_sum_19 : decode prog_1_method_25_code 19 = .ok (.ifnull 23, 3) := by decide +kernel
theorem dX0_sum_22 : decode prog_1_method_25_code 22 = .ok (.aload_n 3, 1) := by decide +kernel
theorem dX0_sum_23 : decode prog_1_method_25_code 23 = .ok (.ifnull 19, 3) := by decide +kernel
theorem dX0_sum_26 : decode prog_1_method_25_code 26 = .ok (.aload_n 2, 1) := by decide +kernel
theorem dX0_sum_27 : decode prog_1_method_25_code 27 = .ok (.getfield 90, 3) := by decide +kernel
theorem dX0_sum_30 : decode prog_1_method_25_code 30 = .ok (.iconst 3, 1) := by decide +kernel
theorem dX0_sum_31 : decode prog_1_method_25_code 31 = .ok (.if_icmp .ne 11, 3) := by decide +kernel
theorem dX0_sum_34 : decode prog_1_method_25_code 34 = .ok (.aload_n 3, 1) := by decide +kernel
theorem dX0_sum_35 : decode prog_1_method_25_code 35 = .ok (.getfield 90, 3) := by decide +kernel
theorem dX0_sum_38 : decode prog_1_method_25_code 38 = .ok (.iconst 3, 1) := by decide +kernel
theorem dX0_sum_39 : decode prog_1_method_25_code 39 = .ok (.if_icmp .eq 11, 3) := by decide +kernel
theorem dX0_sum_42 : decode prog_1_method_25_code 42 = .ok (.aload_n 1, 1) := by decide +kernel
theorem dX0_sum_43 : decode prog_1_method_25_code 43 = .ok (.iconst 3, 1) := by decide +kernel
theorem dX0_sum_44 : decode prog_1_method_25_code 44 = .ok (.invokevirtual 285, 3) := by decide +kernel
theorem dX0_sum_47 : decode prog_1_method_25_code 47 = .ok (.goto 16, 3) := by decide +kernel
theorem dX0_sum_50 : decode prog_1_method_25_code 50 = .ok (.aload_n 1, 1) := by decide +kernel
theorem dX0_sum_51 : decode prog_1_method_25_code 51 = .ok (.aload_n 2, 1) := by decide +kernel
theorem dX0_sum_52 : decode prog_1_method_25_code 52 = .ok (.getfield 143, 3) := by decide +kernel
theorem dX0_sum_55 : decode prog_1_method_25_code 55 = .ok (.aload_n 3, 1) := by decide +kernel
theorem dX0_sum_56 : decode prog_1_method_25_code 56 = .ok (.getfield 143, 3) := by decide +kernel
theorem dX0_sum_59 : decode prog_1_method_25_code 59 = .ok (.iadd, 1) := by decide +kernel
theorem dX0_sum_60 : decode prog_1_method_25_code 60 = .ok (.invokevirtual 270, 3) := by decide +kernel
theorem dX0_sum_63 : decode prog_1_method_25_code 63 = .ok (.return_, 1) := by decide +kernel
def wpX0_sum (K : KX) (post : gS → Prop) (u : gS) (p1 : Nat) : Prop :=
  wpX0_find K (fun (r1 : Option Nat) (u2 : gS) => wpX0_find K (fun (r3 : Option Nat) (u4 : gS) => ((r1 = none → (wpX5_fail K (fun (u7 : gS) => post u7) u4 p1 3)) ∧ (∀ y5 : Nat, r1 = some y5 → (((r3 = none → (wpX5_fail K (fun (u10 : gS) => post u10) u4 p1 3)) ∧ (∀ y8 : Nat, r3 = some y8 → (y5 ∈ K.2.2.1 ∧ (((¬ (sA u4 0 y5) = 3 → (wpX5_fail K (fun (u14 : gS) => post u14) u4 p1 3)) ∧ ((sA u4 0 y5) = 3 → (y8 ∈ K.2.2.1 ∧ ((((sA u4 0 y8) = 3 → (wpX5_succeed K (fun (u18 : gS) => post u18) u4 p1 ((sA u4 1 y5) + (sA u4 1 y8)))) ∧ (¬ (sA u4 0 y8) = 3 → (wpX5_fail K (fun (u20 : gS) => post u20) u4 p1 3))))))))))))))) u2 (K.2.2.2.1 p1 3)) u (K.2.2.2.1 p1 2)

set_option maxHeartbeats 8000000 in
set_option maxRecDepth 100000 in
theorem cX0_sum (l : Launch) (dC : Nat → ClassId) (dI : Nat → Nat → Nat) (ad : Nat → Nat) (ca : Nat → ClassId) (K : KX) (sz : Nat) (u : gS) (p1 : Nat) (post : gS → Prop) (hp1 : p1 ∈ K.2.2.1) (h : wpX0_sum K post u p1) : Met l ⟨"WorkHall", "sum", "(LWorkHall$Job;)V"⟩ (gw ⟨"WorkHall", "sum", "(LWorkHall$Job;)V"⟩ prog_1_method_25_code 4 none) ({ frames := 2, cells := 0, slots := 0, locals := 80 } : Room) (va_Pc [.ref (ad 0), .ref p1] (gB (dC, dI) vwCl (xT ca) xE (wX ad ca K u) sz)) (va_Qv post (gAt (dC, dI) vwCl (xT ca) (wX ad ca K) (va_A (wX ad ca K u) sz)) (va_A (wX ad ca K u) sz)) 0 0 (va_A (wX ad ca K u) sz) := by
  refine Met.ofW (cc := prog_1_method_25_code) (maxL := 4) (ret := none) (by decide) rfl ?_
  intro p e s m args below meth c s₁ B hml hv
  obtain ⟨rfl, hsz, hP, hK, hD0, hE⟩ := hv
  have hx := B.exec
  have hb := B.bytes
  have hr := B.returns
  have hts : ∀ w ∈ gW, w.before _ s = true := fun w h9 => atoms_spec (ws := (gw ⟨"WorkHall", "sum", "(LWorkHall$Job;)V"⟩ prog_1_method_25_code 4 none)) B.pre w (List.mem_cons_of_mem _ h9)
  have hown : s.vm.findClass RX0 = some m.cls := findClass_of_methodNamed B.named
  have hlocks := B.notSynchronized
  subst hsz
  have hD := hD0.self (sz := s.heap.size)
  generalize hAe : va_A (wX ad ca K u) s.heap.size = A at hD hE ⊢
  have hA : ∀ q : Nat, s.heap.size ≤ q → A q := fun q h => by rw [← hAe]; exact Or.inr h
  obtain ⟨H, hHe⟩ : ∃ z : Heap, z = s.heap := ⟨_, rfl⟩
  rw [← hHe]
  have hS : va_S A s.heap H [] := by rw [hHe]; exact va_S.rf
  have hP : va_P (dC, dI) vwCl (wX ad ca K u) H := by rw [hHe]; exact hP
  have hl := lv_entry ([.ref (ad 0), .ref p1]) (n := 4) (Nat.le_of_ble_eq_true rfl)
  rw [lg_entry_eq]
  generalize (lg_sl ([.ref (ad 0), .ref p1]) ++ List.replicate (4 - (lg_sl ([.ref (ad 0), .ref p1])).length) Slot.unset).toArray = ls at hl ⊢
  have hl : lv_has ls 4 [(0, .ref (ad 0)), (1, .ref p1)] := hl
  clear hAe
  refine lv_aload_n hx hb dX0_sum_0 rfl (lv_at hl 0 rfl) ?_
  refine lv_aload_n hx hb dX0_sum_1 rfl (lv_at hl 1 rfl) ?_
  obtain ⟨k9, hk9⟩ := xJ_get hp1
  refine va_get (D := (dC, dI)) (ci := 5) (v := .int (K.2.2.2.1 p1 2)) (C := RX5) (T := TX5) (N := 9) hx hb hts uwX5 hown hK hP k9 hk9 rfl 2 (by decide) (hts _ wd_320) (fun _ h9 => h9) rfl dX0_sum_2 ?_
  refine gc_q (w := wX ad ca K) (u := u) (va_runV (As := [.int (K.2.2.2.1 p1 2)]) (rest := []) ⟨hx, hb, hml, hown, hts⟩ (cX0_find l dC dI ad ca K H.size u (K.2.2.2.1 p1 2) _ h) (cwV 1 hts (gG_V wd_368 wd_370 wd_2 wd_46 wd_371) rfl rfl rfl (by decide +kernel) ⟨Nat.le_of_ble_eq_true rfl, Nat.le_of_ble_eq_true rfl⟩) ⟨gB_blind xE_ok, va_recv hK hP (ci := 0) (q0 := 0) rfl rfl, gB_pre xE_ok hP hK hD hE hS hA⟩ rfl rfl hl.1 rfl (lv_room (Nat.le_of_ble_eq_true rfl)) dX0_sum_5 ⟨Nat.le_of_ble_eq_true rfl, Nat.le_of_ble_eq_true rfl⟩) hD hS hA (fun r1 u2 H locs h hP hD hS => ?_)
  refine gq_astore_n (r := r1) (lv' := [(2, va_rf r1), (0, .ref (ad 0)), (1, .ref p1)]) hx hb dX0_sum_8 rfl hl (by decide) rfl (fun ls hl => ?_)
  refine lv_aload_n hx hb dX0_sum_9 rfl (lv_at hl 1 rfl) ?_
  refine lv_aload_n hx hb dX0_sum_10 rfl (lv_at hl 2 rfl) ?_
  obtain ⟨k9, hk9⟩ := xJ_get hp1
  refine va_get (D := (dC, dI)) (ci := 5) (v := .int (K.2.2.2.1 p1 3)) (C := RX5) (T := TX5) (N := 9) hx hb hts uwX5 hown hK hP k9 hk9 rfl 3 (by decide) (hts _ wd_322) (fun _ h9 => h9) rfl dX0_sum_11 ?_
  refine gc_q (w := wX ad ca K) (u := u2) (va_runV (As := [.int (K.2.2.2.1 p1 3)]) (rest := []) ⟨hx, hb, hml, hown, hts⟩ (cX0_find l dC dI ad ca K H.size u2 (K.2.2.2.1 p1 3) _ h) (cwV 1 hts (gG_V wd_368 wd_370 wd_2 wd_46 wd_371) rfl rfl rfl (by decide +kernel) ⟨Nat.le_of_ble_eq_true rfl, Nat.le_of_ble_eq_true rfl⟩) ⟨gB_blind xE_ok, va_recv hK hP (ci := 0) (q0 := 0) rfl rfl, gB_pre xE_ok hP hK hD hE hS hA⟩ rfl rfl hl.1 rfl (lv_room (Nat.le_of_ble_eq_true rfl)) dX0_sum_14 ⟨Nat.le_of_ble_eq_true rfl, Nat.le_of_ble_eq_true rfl⟩) hD hS hA (fun r3 u4 H locs h hP hD hS => ?_)
  refine gq_astore_n (r := r3) (lv' := [(3, va_rf r3), (2, va_rf r1), (0, .ref (ad 0)), (1, .ref p1)]) hx hb dX0_sum_17 rfl hl (by decide) (by cases r1 <;> rfl) (fun ls hl => ?_)
  refine gq_aload_n (r := r1) hx hb dX0_sum_18 rfl (lv_at hl 1 rfl) ?_
  rcases r1 with _ | y5
  · have h := h.1 rfl
    refine lv_ifnullN (tgt := 42) hx hb dX0_sum_19 (by decide) ?_
    refine lv_aload_n hx hb dX0_sum_42 rfl (lv_at hl 3 rfl) ?_
    refine lv_iconst (v := 3) hx hb dX0_sum_43 (by decide) ?_
    refine gc_v (w := wX ad ca K) (u := u4) (va_runV (As := [.int 3]) (rest := []) ⟨hx, hb, hml, hown, hts⟩ (cX5_fail l dC dI ad ca K H.size u4 p1 3 _ hp1 h) (cwV 1 hts (gG_V wd_454 wd_440 wd_441 wd_58 wd_442) rfl rfl rfl (by decide +kernel) ⟨Nat.le_of_ble_eq_true rfl, Nat.le_of_ble_eq_true rfl⟩) ⟨gB_blind xE_ok, (by obtain ⟨k9, hk9⟩ := xJ_get hp1; exact va_recv hK hP (ci := 5) (q0 := k9) rfl hk9), gB_pre xE_ok hP hK hD hE hS hA⟩ rfl rfl hl.1 rfl (lv_room (Nat.le_of_ble_eq_true rfl)) dX0_sum_44 ⟨Nat.le_of_ble_eq_true rfl, Nat.le_of_ble_eq_true rfl⟩) hD hS hA (fun u7 H locs h hP hD hS => ?_)
    refine lv_goto (tgt := 63) hx hb dX0_sum_47 (by decide) ?_
    exact gr_v (w := wX ad ca K) (u := u7) hx hb hr hlocks h hP hK hD hS dX0_sum_63
  · have h := h.2 y5 rfl
    refine lv_ifnull hx hb dX0_sum_19 ?_
    refine gq_aload_n (r := r3) hx hb dX0_sum_22 rfl (lv_at hl 0 rfl) ?_
    rcases r3 with _ | y8
    · have h := h.1 rfl
      refine lv_ifnullN (tgt := 42) hx hb dX0_sum_23 (by decide) ?_
      refine lv_aload_n hx hb dX0_sum_42 rfl (lv_at hl 3 rfl) ?_
      refine lv_iconst (v := 3) hx hb dX0_sum_43 (by decide) ?_
      refine gc_v (w := wX ad ca K) (u := u4) (va_runV (As := [.int 3]) (rest := []) ⟨hx, hb, hml, hown, hts⟩ (cX5_fail l dC dI ad ca K H.size u4 p1 3 _ hp1 h) (cwV 1 hts (gG_V wd_454 wd_440 wd_441 wd_58 wd_442) rfl rfl rfl (by decide +kernel) ⟨Nat.le_of_ble_eq_true rfl, Nat.le_of_ble_eq_true rfl⟩) ⟨gB_blind xE_ok, (by obtain ⟨k9, hk9⟩ := xJ_get hp1; exact va_recv hK hP (ci := 5) (q0 := k9) rfl hk9), gB_pre xE_ok hP hK hD hE hS hA⟩ rfl rfl hl.1 rfl (lv_room (Nat.le_of_ble_eq_true rfl)) dX0_sum_44 ⟨Nat.le_of_ble_eq_true rfl, Nat.le_of_ble_eq_true rfl⟩) hD hS hA (fun u10 H locs h hP hD hS => ?_)
      refine lv_goto (tgt := 63) hx hb dX0_sum_47 (by decide) ?_
      exact gr_v (w := wX ad ca K) (u := u10) hx hb hr hlocks h hP hK hD hS dX0_sum_63
    · have h := h.2 y8 rfl
      refine lv_ifnull hx hb dX0_sum_23 ?_
      refine lv_aload_n hx hb dX0_sum_26 rfl (lv_at hl 1 rfl) ?_
      obtain ⟨hy11, h⟩ := h
      obtain ⟨k9, hk9⟩ := xJ_get hy11
      refine va_get (D := (dC, dI)) (ci := 5) (v := .int (sA u4 0 y5)) (C := RX5) (T := TX5) (N := 9) hx hb hts uwX5 hown hK hP k9 hk9 rfl 5 (by decide) (hts _ wd_327) (fun _ h9 => h9) rfl dX0_sum_27 ?_
      refine lv_iconst (v := 3) hx hb dX0_sum_30 (by decide) ?_
      refine lv_icmp_ne (tgt := 42) hx hb dX0_sum_31 (by decide) (fun c12 => ?_) (fun c12 => ?_)
      · have h := h.1 c12
        refine lv_aload_n hx hb dX0_sum_42 rfl (lv_at hl 3 rfl) ?_
        refine lv_iconst (v := 3) hx hb dX0_sum_43 (by decide) ?_
        refine gc_v (w := wX ad ca K) (u := u4) (va_runV (As := [.int 3]) (rest := []) ⟨hx, hb, hml, hown, hts⟩ (cX5_fail l dC dI ad ca K H.size u4 p1 3 _ hp1 h) (cwV 1 hts (gG_V wd_454 wd_440 wd_441 wd_58 wd_442) rfl rfl rfl (by decide +kernel) ⟨Nat.le_of_ble_eq_true rfl, Nat.le_of_ble_eq_true rfl⟩) ⟨gB_blind xE_ok, (by obtain ⟨k9, hk9⟩ := xJ_get hp1; exact va_recv hK hP (ci := 5) (q0 := k9) rfl hk9), gB_pre xE_ok hP hK hD hE hS hA⟩ rfl rfl hl.1 rfl (lv_room (Nat.le_of_ble_eq_true rfl)) dX0_sum_44 ⟨Nat.le_of_ble_eq_true rfl, Nat.le_of_ble_eq_true rfl⟩) hD hS hA (fun u14 H locs h hP hD hS => ?_)
        refine lv_goto (tgt := 63) hx hb dX0_sum_47 (by decide) ?_
        exact gr_v (w := wX ad ca K) (u := u14) hx hb hr hlocks h hP hK hD hS dX0_sum_63
      · have h := h.2 c12
        refine lv_aload_n hx hb dX0_sum_34 rfl (lv_at hl 0 rfl) ?_
        obtain ⟨hy15, h⟩ := h
        obtain ⟨k9, hk9⟩ := xJ_get hy15
        refine va_get (D := (dC, dI)) (ci := 5) (v := .int (sA u4 0 y8)) (C := RX5) (T := TX5) (N := 9) hx hb hts uwX5 hown hK hP k9 hk9 rfl 5 (by decide) (hts _ wd_327) (fun _ h9 => h9) rfl dX0_sum_35 ?_
        refine lv_iconst (v := 3) hx hb dX0_sum_38 (by decide) ?_
        refine lv_icmp_eq (tgt := 50) hx hb dX0_sum_39 (by decide) (fun c16 => ?_) (fun c16 => ?_)
        · have h := h.1 c16
          refine lv_aload_n hx hb dX0_sum_50 rfl (lv_at hl 3 rfl) ?_
          refine lv_aload_n hx hb dX0_sum_51 rfl (lv_at hl 1 rfl) ?_
          obtain ⟨k9, hk9⟩ := xJ_get hy11
          refine va_get (D := (dC, dI)) (ci := 5) (v := .int (sA u4 1 y5)) (C := RX5) (T := TX5) (N := 9) hx hb hts uwX5 hown hK hP k9 hk9 rfl 6 (by decide) (hts _ wd_331) (fun _ h9 => h9) rfl dX0_sum_52 ?_
          refine lv_aload_n hx hb dX0_sum_55 rfl (lv_at hl 0 rfl) ?_
          obtain ⟨k9, hk9⟩ := xJ_get hy15
          refine va_get (D := (dC, dI)) (ci := 5) (v := .int (sA u4 1 y8)) (C := RX5) (T := TX5) (N := 9) hx hb hts uwX5 hown hK hP k9 hk9 rfl 6 (by decide) (hts _ wd_331) (fun _ h9 => h9) rfl dX0_sum_56 ?_
          refine lv_iadd hx hb dX0_sum_59 ?_
          refine gc_v (w := wX ad ca K) (u := u4) (va_runV (As := [.int ((sA u4 1 y5) + (sA u4 1 y8))]) (rest := []) ⟨hx, hb, hml, hown, hts⟩ (cX5_succeed l dC dI ad ca K H.size u4 p1 ((sA u4 1 y5) + (sA u4 1 y8)) _ hp1 h) (cwV 1 hts (gG_V wd_431 wd_432 wd_433 wd_58 wd_434) rfl rfl rfl (by decide +kernel) ⟨Nat.le_of_ble_eq_true rfl, Nat.le_of_ble_eq_true rfl⟩) ⟨gB_blind xE_ok, (by obtain ⟨k9, hk9⟩ := xJ_get hp1; exact va_recv hK hP (ci := 5) (q0 := k9) rfl hk9), gB_pre xE_ok hP hK hD hE hS hA⟩ rfl rfl hl.1 rfl (lv_room (Nat.le_of_ble_eq_true rfl)) dX0_sum_60 ⟨Nat.le_of_ble_eq_true rfl, Nat.le_of_ble_eq_true rfl⟩) hD hS hA (fun u18 H locs h hP hD hS => ?_)
          exact gr_v (w := wX ad ca K) (u := u18) hx hb hr hlocks h hP hK hD hS dX0_sum_63
        · have h := h.2 c16
          refine lv_aload_n hx hb dX0_sum_42 rfl (lv_at hl 3 rfl) ?_
          refine lv_iconst (v := 3) hx hb dX0_sum_43 (by decide) ?_
          refine gc_v (w := wX ad ca K) (u := u4) (va_runV (As := [.int 3]) (rest := []) ⟨hx, hb, hml, hown, hts⟩ (cX5_fail l dC dI ad ca K H.size u4 p1 3 _ hp1 h) (cwV 1 hts (gG_V wd_454 wd_440 wd_441 wd_58 wd_442) rfl rfl rfl (by decide +kernel) ⟨Nat.le_of_ble_eq_true rfl, Nat.le_of_ble_eq_true rfl⟩) ⟨gB_blind xE_ok, (by obtain ⟨k9, hk9⟩ := xJ_get hp1; exact va_recv hK hP (ci := 5) (q0 := k9) rfl hk9), gB_pre xE_ok hP hK hD hE hS hA⟩ rfl rfl hl.1 rfl (lv_room (Nat.le_of_ble_eq_true rfl)) dX0_sum_44 ⟨Nat.le_of_ble_eq_true rfl, Nat.le_of_ble_eq_true rfl⟩) hD hS hA (fun u20 H locs h hP hD hS => ?_)
          refine lv_goto (tgt := 63) hx hb dX0_sum_47 (by decide) ?_
          exact gr_v (w := wX ad ca K) (u := u20) hx hb hr hlocks h hP hK hD hS dX0_sum_63

theorem dX0_endIfSettled_0 : decode prog_1_method_33_code 0 = .ok (.aload_n 0, 1) := by decide +kernel
theorem dX0_endIfSettled_1 : decode prog_1_method_33_code 1 = .ok (.getfield 40, 3) := by decide +kernel
theorem dX0_endIfSettled_4 : decode prog_1_method_33_code 4 = .ok (.iconst 1, 1) := by decide +kernel
theorem dX0_endIfSettled_5 : decode prog_1_method_33_code 5 = .ok (.if_icmp .ne 44, 3) := by decide +kernel
theorem dX0_endIfSettled_8 : decode prog_1_method_33_code 8 = .ok (.aload_n 0, 1) := by decide +kernel
theorem dX0_endIfSettled_9 : decode prog_1_method_33_code 9 = .ok (.getfield 25, 3) := by decide +kernel
theorem dX0_endIfSettled_12 : decode prog_1_method_33_code 12 = .ok (.getfield 218, 3) := by decide +kernel
theorem dX0_endIfSettled_15 : decode prog_1_method_33_code 15 = .ok (.ifCond .ne 34, 3) := by decide +kernel
theorem dX0_endIfSettled_18 : decode prog_1_method_33_code 18 = .ok (.aload_n 0, 1) := by decide +kernel
theorem dX0_endIfSettled_19 : decode prog_1_method_33_code 19 = .ok (.getfield 18, 3) := by decide +kernel
theorem dX0_endIfSettled_22 : decode prog_1_method_33_code 22 = .ok (.invokevirtual 215, 3) := by decide +kernel
theorem dX0_endIfSettled_25 : decode prog_1_method_33_code 25 = .ok (.ifCond .ne 24, 3) := by decide +kernel
theorem dX0_endIfSettled_28 : decode prog_1_method_33_code 28 = .ok (.aload_n 0, 1) := by decide +kernel
theorem dX0_endIfSettled_29 : decode prog_1_method_33_code 29 = .ok (.iconst 2, 1) := by decide +kernel
theorem dX0_endIfSettled_30 : decode prog_1_method_33_code 30 = .ok (.putfield 40, 3) := by decide +kernel
theorem dX0_endIfSettled_33 : decode prog_1_method_33_code 33 = .ok (.aload_n 0, 1) := by decide +kernel
theorem dX0_endIfSettled_34 : decode prog_1_method_33_code 34 = .ok (.getfield 18, 3) := by decide +kernel
theorem dX0_endIfSettled_37 : decode prog_1_method_33_code 37 = .ok (.iconst 0, 1) := by decide +kernel
theorem dX0_endIfSettled_38 : decode prog_1_method_33_code 38 = .ok (.putfield 214, 3) := by decide +kernel
theorem dX0_endIfSettled_41 : decode prog_1_method_33_code 41 = .ok (.aload_n 0, 1) := by decide +kernel
theorem dX0_endIfSettled_42 : decode prog_1_method_33_code 42 = .ok (.getfield 32, 3) := by decide +kernel
theorem dX0_endIfSettled_45 : decode prog_1_method_33_code 45 = .ok (.iconst 0, 1) := by decide +kernel
theorem dX0_endIfSettled_46 : decode prog_1_method_33_code 46 = .ok (.putfield 172, 3) := by decide +kernel
theorem dX0_endIfSettled_49 : decode prog_1_method_33_code 49 = .ok (.return_, 1) := by decide +kernel
def wpX0_endIfSettled (K : KX) (post : gS → Prop) (u : gS)  : Prop :=
  ((¬ (sI u 0) = 1 → (post u)) ∧ ((sI u 0) = 1 → (((¬ (sI u 4) = 0 → (post u)) ∧ ((sI u 4) = 0 → (wpX1_busy K (fun (r3 : Int32) (u4 : gS) => ((¬ r3 = 0 → (post u4)) ∧ (r3 = 0 → (∀ u6 : gS, u6 = tI u4 0 2 → (∀ u7 : gS, u7 = tI u6 2 0 → (∀ u8 : gS, u8 = tI u7 6 0 → (post u8))))))) u))))))

set_option maxHeartbeats 8000000 in
set_option maxRecDepth 100000 in
theorem cX0_endIfSettled (l : Launch) (dC : Nat → ClassId) (dI : Nat → Nat → Nat) (ad : Nat → Nat) (ca : Nat → ClassId) (K : KX) (sz : Nat) (u : gS)  (post : gS → Prop)  (h : wpX0_endIfSettled K post u ) : Met l ⟨"WorkHall", "endIfSettled", "()V"⟩ (gw ⟨"WorkHall", "endIfSettled", "()V"⟩ prog_1_method_33_code 1 none) ({ frames := 2, cells := 0, slots := 0, locals := 80 } : Room) (va_Pc [.ref (ad 0)] (gB (dC, dI) vwCl (xT ca) xE (wX ad ca K u) sz)) (va_Qv post (gAt (dC, dI) vwCl (xT ca) (wX ad ca K) (va_A (wX ad ca K u) sz)) (va_A (wX ad ca K u) sz)) 0 0 (va_A (wX ad ca K u) sz) := by
  refine Met.ofW (cc := prog_1_method_33_code) (maxL := 1) (ret := none) (by decide) rfl ?_
  intro p e s m args below meth c s₁ B hml hv
  obtain ⟨rfl, hsz, hP, hK, hD0, hE⟩ := hv
  have hx := B.exec
  have hb := B.bytes
  have hr := B.returns
  have hts : ∀ w ∈ gW, w.before _ s = true := fun w h9 => atoms_spec (ws := (gw ⟨"WorkHall", "endIfSettled", "()V"⟩ prog_1_method_33_code 1 none)) B.pre w (List.mem_cons_of_mem _ h9)
  have hown : s.vm.findClass RX0 = some m.cls := findClass_of_methodNamed B.named
  have hlocks := B.notSynchronized
  subst hsz
  have hD := hD0.self (sz := s.heap.size)
  generalize hAe : va_A (wX ad ca K u) s.heap.size = A at hD hE ⊢
  have hA : ∀ q : Nat, s.heap.size ≤ q → A q := fun q h => by rw [← hAe]; exact Or.inr h
  obtain ⟨H, hHe⟩ : ∃ z : Heap, z = s.heap := ⟨_, rfl⟩
  rw [← hHe]
  have hS : va_S A s.heap H [] := by rw [hHe]; exact va_S.rf
  have hP : va_P (dC, dI) vwCl (wX ad ca K u) H := by rw [hHe]; exact hP
  have hl := lv_entry ([.ref (ad 0)]) (n := 1) (Nat.le_of_ble_eq_true rfl)
  rw [lg_entry_eq]
  generalize (lg_sl ([.ref (ad 0)]) ++ List.replicate (1 - (lg_sl ([.ref (ad 0)])).length) Slot.unset).toArray = ls at hl ⊢
  have hl : lv_has ls 1 [(0, .ref (ad 0))] := hl
  clear hAe
  refine lv_aload_n hx hb dX0_endIfSettled_0 rfl (lv_at hl 0 rfl) ?_
  refine va_get (D := (dC, dI)) (ci := 0) (v := .int (sI u 0)) (C := RX0) (T := TX0) (N := 12) hx hb hts uwX0 hown hK hP 0 rfl rfl 9 (by decide) (hts _ wd_181) (fun _ h9 => h9) rfl dX0_endIfSettled_1 ?_
  refine lv_iconst (v := 1) hx hb dX0_endIfSettled_4 (by decide) ?_
  refine lv_icmp_ne (tgt := 49) hx hb dX0_endIfSettled_5 (by decide) (fun c1 => ?_) (fun c1 => ?_)
  · have h := h.1 c1
    exact gr_v (w := wX ad ca K) (u := u) hx hb hr hlocks h hP hK hD hS dX0_endIfSettled_49
  · have h := h.2 c1
    refine lv_aload_n hx hb dX0_endIfSettled_8 rfl (lv_at hl 0 rfl) ?_
    refine va_get (D := (dC, dI)) (ci := 0) (v := .ref (ad 4)) (C := RX0) (T := TX0) (N := 12) hx hb hts uwX0 hown hK hP 0 rfl rfl 6 (by decide) (hts _ wd_178) (fun _ h9 => h9) rfl dX0_endIfSettled_9 ?_
    refine va_get (D := (dC, dI)) (ci := 2) (v := .int (sI u 4)) (C := RX2) (T := TX2) (N := 5) hx hb hts uwX2 hown hK hP 4 rfl rfl 2 (by decide) (hts _ wd_122) (fun _ h9 => h9) rfl dX0_endIfSettled_12 ?_
    refine lv_if_ne (tgt := 49) hx hb dX0_endIfSettled_15 (by decide) (fun c2 => ?_) (fun c2 => ?_)
    · have h := h.1 c2
      exact gr_v (w := wX ad ca K) (u := u) hx hb hr hlocks h hP hK hD hS dX0_endIfSettled_49
    · have h := h.2 c2
      refine lv_aload_n hx hb dX0_endIfSettled_18 rfl (lv_at hl 0 rfl) ?_
      refine va_get (D := (dC, dI)) (ci := 0) (v := .ref (ad 2)) (C := RX0) (T := TX0) (N := 12) hx hb hts uwX0 hown hK hP 0 rfl rfl 5 (by decide) (hts _ wd_177) (fun _ h9 => h9) rfl dX0_endIfSettled_19 ?_
      refine gc_i (w := wX ad ca K) (u := u) (va_runV (As := []) (rest := []) ⟨hx, hb, hml, hown, hts⟩ (cX1_busy l dC dI ad ca K H.size u _ h) (cwV 0 hts (gG_V wd_529 wd_530 wd_531 wd_47 wd_532) rfl rfl rfl (by decide +kernel) ⟨Nat.le_of_ble_eq_true rfl, Nat.le_of_ble_eq_true rfl⟩) ⟨gB_blind xE_ok, va_recv hK hP (ci := 1) (q0 := 2) rfl rfl, gB_pre xE_ok hP hK hD hE hS hA⟩ rfl rfl hl.1 rfl (lv_room (Nat.le_of_ble_eq_true rfl)) dX0_endIfSettled_22 ⟨Nat.le_of_ble_eq_true rfl, Nat.le_of_ble_eq_true rfl⟩) hD hS hA (fun r3 u4 H locs h hP hD hS => ?_)
      refine lv_if_ne (tgt := 49) hx hb dX0_endIfSettled_25 (by decide) (fun c5 => ?_) (fun c5 => ?_)
      · have h := h.1 c5
        exact gr_v (w := wX ad ca K) (u := u4) hx hb hr hlocks h hP hK hD hS dX0_endIfSettled_49
      · have h := h.2 c5
        refine lv_aload_n hx hb dX0_endIfSettled_28 rfl (lv_at hl 0 rfl) ?_
        refine lv_iconst (v := 2) hx hb dX0_endIfSettled_29 (by decide) ?_
        refine va_put (D := (dC, dI)) (ci := 0) (v := .int 2) (ty := tyX0 9) (C := RX0) (T := TX0) (N := 12) hx hb hts uwX0 tyX0 tyX0_ok nmX0 hown hK hP hD hS 0 rfl rfl 9 (by decide) (hts _ wd_181) (fun _ h9 => h9) rfl (tyX0_ok 9 (by decide)) rfl rfl (Nat.le_of_ble_eq_true rfl) dX0_endIfSettled_30 (fun H locs hP hD hS => ?_)
        obtain ⟨u6, eu6⟩ : ∃ z : gS, z = tI u4 0 2 := ⟨_, rfl⟩
        have hP : va_P (dC, dI) vwCl (wX ad ca K u6) H := by rw [eu6, wX_f0_phase]; exact hP
        have hD : va_D A (wX ad ca K u6) := by rw [eu6, wX_f0_phase]; exact hD
        have h := h u6 eu6
        refine lv_aload_n hx hb dX0_endIfSettled_33 rfl (lv_at hl 0 rfl) ?_
        refine va_get (D := (dC, dI)) (ci := 0) (v := .ref (ad 2)) (C := RX0) (T := TX0) (N := 12) hx hb hts uwX0 hown hK hP 0 rfl rfl 5 (by decide) (hts _ wd_177) (fun _ h9 => h9) rfl dX0_endIfSettled_34 ?_
        refine lv_iconst (v := 0) hx hb dX0_endIfSettled_37 (by decide) ?_
        refine va_put (D := (dC, dI)) (ci := 1) (v := .int 0) (ty := tyX1 1) (C := RX1) (T := TX1) (N := 3) hx hb hts uwX1 tyX1 tyX1_ok nmX1 hown hK hP hD hS 2 rfl rfl 1 (by decide) (hts _ wd_102) (fun _ h9 => h9) rfl (tyX1_ok 1 (by decide)) rfl rfl (Nat.le_of_ble_eq_true rfl) dX0_endIfSettled_38 (fun H locs hP hD hS => ?_)
        obtain ⟨u7, eu7⟩ : ∃ z : gS, z = tI u6 2 0 := ⟨_, rfl⟩
        have hP : va_P (dC, dI) vwCl (wX ad ca K u7) H := by rw [eu7, wX_f2_size]; exact hP
        have hD : va_D A (wX ad ca K u7) := by rw [eu7, wX_f2_size]; exact hD
        have h := h u7 eu7
        refine lv_aload_n hx hb dX0_endIfSettled_41 rfl (lv_at hl 0 rfl) ?_
        refine va_get (D := (dC, dI)) (ci := 0) (v := .ref (ad 7)) (C := RX0) (T := TX0) (N := 12) hx hb hts uwX0 hown hK hP 0 rfl rfl 7 (by decide) (hts _ wd_179) (fun _ h9 => h9) rfl dX0_endIfSettled_42 ?_
        refine lv_iconst (v := 0) hx hb dX0_endIfSettled_45 (by decide) ?_
        refine va_put (D := (dC, dI)) (ci := 3) (v := .int 0) (ty := tyX3 3) (C := RX3) (T := TX3) (N := 4) hx hb hts uwX3 tyX3 tyX3_ok nmX3 hown hK hP hD hS 7 rfl rfl 3 (by decide) (hts _ wd_153) (fun _ h9 => h9) rfl (tyX3_ok 3 (by decide)) rfl rfl (Nat.le_of_ble_eq_true rfl) dX0_endIfSettled_46 (fun H locs hP hD hS => ?_)
        obtain ⟨u8, eu8⟩ : ∃ z : gS, z = tI u7 6 0 := ⟨_, rfl⟩
        have hP : va_P (dC, dI) vwCl (wX ad ca K u8) H := by rw [eu8, wX_f7_size]; exact hP
        have hD : va_D A (wX ad ca K u8) := by rw [eu8, wX_f7_size]; exact hD
        have h := h u8 eu8
        exact gr_v (w := wX ad ca K) (u := u8) hx hb hr hlocks h hP hK hD hS dX0_endIfSettled_49

theorem dX0_freeWorker_0 : decode prog_1_method_30_code 0 = .ok (.aload_n 1, 1) := by decide +kernel
theorem dX0_freeWorker_1 : decode prog_1_method_30_code 1 = .ok (.ifnonnull 4, 3) := by decide +kernel
theorem dX0_freeWorker_4 : decode prog_1_method_30_code 4 = .ok (.return_, 1) := by decide +kernel
theorem dX0_freeWorker_5 : decode prog_1_method_30_code 5 = .ok (.aload_n 0, 1) := by decide +kernel
theorem dX0_freeWorker_6 : decode prog_1_method_30_code 6 = .ok (.getfield 25, 3) := by decide +kernel
theorem dX0_freeWorker_9 : decode prog_1_method_30_code 9 = .ok (.aload_n 0, 1) := by decide +kernel
theorem dX0_freeWorker_10 : decode prog_1_method_30_code 10 = .ok (.getfield 46, 3) := by decide +kernel
theorem dX0_freeWorker_13 : decode prog_1_method_30_code 13 = .ok (.invokevirtual 304, 3) := by decide +kernel
theorem dX0_freeWorker_16 : decode prog_1_method_30_code 16 = .ok (.astore_n 2, 1) := by decide +kernel
theorem dX0_freeWorker_17 : decode prog_1_method_30_code 17 = .ok (.aload_n 2, 1) := by decide +kernel
theorem dX0_freeWorker_18 : decode prog_1_method_30_code 18 = .ok (.ifnull 11, 3) := by decide +kernel
theorem dX0_freeWorker_21 : decode prog_1_method_30_code 21 = .ok (.aload_n 1, 1) := by decide +kernel
theorem dX0_freeWorker_22 : decode prog_1_method_30_code 22 = .ok (.aload_n 2, 1) := by decide +kernel
theorem dX0_freeWorker_23 : decode prog_1_method_30_code 23 = .ok (.invokevirtual 254, 3) := by decide +kernel
theorem dX0_freeWorker_26 : decode prog_1_method_30_code 26 = .ok (.goto 11, 3) := by decide +kernel
theorem dX0_freeWorker_29 : decode prog_1_method_30_code 29 = .ok (.aload_n 1, 1) := by decide +kernel
theorem dX0_freeWorker_30 : decode prog_1_method_30_code 30 = .ok (.aload_n 0, 1) := by decide +kernel
theorem dX0_freeWorker_31 : decode prog_1_method_30_code 31 = .ok (.getfield 46, 3) := by decide +kernel
theorem dX0_freeWorker_34 : decode prog_1_method_30_code 34 = .ok (.invokevirtual 308, 3) := by decide +kernel
theorem dX0_freeWorker_37 : decode prog_1_method_30_code 37 = .ok (.return_, 1) := by decide +kernel
def wpX0_freeWorker (K : KX) (post : gS → Prop) (u : gS) (p1 : Option Nat) : Prop :=
  ((p1 = none → (post u)) ∧ (∀ y1 : Nat, p1 = some y1 → (wpX2_takeFirst K (fun (r2 : Option Nat) (u3 : gS) => ((r2 = none → (y1 ∈ K.2.1 ∧ (wpX4_rest K (fun (u7 : gS) => post u7) u3 y1 (sD u3 0)))) ∧ (∀ y4 : Nat, r2 = some y4 → (y1 ∈ K.2.1 ∧ (y4 ∈ K.2.2.1 ∧ (wpX4_begin K (fun (u11 : gS) => post u11) u3 y1 y4)))))) u (sD u 0))))

set_option maxHeartbeats 8000000 in
set_option maxRecDepth 100000 in
theorem cX0_freeWorker (l : Launch) (dC : Nat → ClassId) (dI : Nat → Nat → Nat) (ad : Nat → Nat) (ca : Nat → ClassId) (K : KX) (sz : Nat) (u : gS) (p1 : Option Nat) (post : gS → Prop)  (h : wpX0_freeWorker K post u p1) : Met l ⟨"WorkHall", "freeWorker", "(LWorkHall$Worker;)V"⟩ (gw ⟨"WorkHall", "freeWorker", "(LWorkHall$Worker;)V"⟩ prog_1_method_30_code 3 none) ({ frames := 3, cells := 0, slots := 0, locals := 120 } : Room) (va_Pc [.ref (ad 0), va_rf p1] (gB (dC, dI) vwCl (xT ca) xE (wX ad ca K u) sz)) (va_Qv post (gAt (dC, dI) vwCl (xT ca) (wX ad ca K) (va_A (wX ad ca K u) sz)) (va_A (wX ad ca K u) sz)) 0 0 (va_A (wX ad ca K u) sz) := by
  refine Met.ofW (cc := prog_1_method_30_code) (maxL := 3) (ret := none) (by decide) rfl ?_
  intro p e s m args below meth c s₁ B hml hv
  obtain ⟨rfl, hsz, hP, hK, hD0, hE⟩ := hv
  have hx := B.exec
  have hb := B.bytes
  have hr := B.returns
  have hts : ∀ w ∈ gW, w.before _ s = true := fun w h9 => atoms_spec (ws := (gw ⟨"WorkHall", "freeWorker", "(LWorkHall$Worker;)V"⟩ prog_1_method_30_code 3 none)) B.pre w (List.mem_cons_of_mem _ h9)
  have hown : s.vm.findClass RX0 = some m.cls := findClass_of_methodNamed B.named
  have hlocks := B.notSynchronized
  subst hsz
  have hD := hD0.self (sz := s.heap.size)
  generalize hAe : va_A (wX ad ca K u) s.heap.size = A at hD hE ⊢
  have hA : ∀ q : Nat, s.heap.size ≤ q → A q := fun q h => by rw [← hAe]; exact Or.inr h
  obtain ⟨H, hHe⟩ : ∃ z : Heap, z = s.heap := ⟨_, rfl⟩
  rw [← hHe]
  have hS : va_S A s.heap H [] := by rw [hHe]; exact va_S.rf
  have hP : va_P (dC, dI) vwCl (wX ad ca K u) H := by rw [hHe]; exact hP
  have hl := lv_entry ([.ref (ad 0), va_rf p1]) (n := 3) (by cases p1 <;> exact Nat.le_of_ble_eq_true rfl)
  rw [lg_entry_eq]
  generalize (lg_sl ([.ref (ad 0), va_rf p1]) ++ List.replicate (3 - (lg_sl ([.ref (ad 0), va_rf p1])).length) Slot.unset).toArray = ls at hl ⊢
  have hl : lv_has ls 3 [(0, .ref (ad 0)), (1, va_rf p1)] := (by cases p1 <;> exact hl)
  clear hAe
  refine gq_aload_n (r := p1) hx hb dX0_freeWorker_0 rfl (lv_at hl 1 rfl) ?_
  rcases p1 with _ | y1
  · have h := h.1 rfl
    refine lv_ifnonnullN hx hb dX0_freeWorker_1 ?_
    exact gr_v (w := wX ad ca K) (u := u) hx hb hr hlocks h hP hK hD hS dX0_freeWorker_4
  · have h := h.2 y1 rfl
    refine lv_ifnonnull (tgt := 5) hx hb dX0_freeWorker_1 (by decide) ?_
    refine lv_aload_n hx hb dX0_freeWorker_5 rfl (lv_at hl 0 rfl) ?_
    refine va_get (D := (dC, dI)) (ci := 0) (v := .ref (ad 4)) (C := RX0) (T := TX0) (N := 12) hx hb hts uwX0 hown hK hP 0 rfl rfl 6 (by decide) (hts _ wd_178) (fun _ h9 => h9) rfl dX0_freeWorker_6 ?_
    refine lv_aload_n hx hb dX0_freeWorker_9 rfl (lv_at hl 0 rfl) ?_
    refine va_get (D := (dC, dI)) (ci := 0) (v := .double (sD u 0)) (C := RX0) (T := TX0) (N := 12) hx hb hts uwX0 hown hK hP 0 rfl rfl 11 (by decide) (hts _ wd_183) (fun _ h9 => h9) rfl dX0_freeWorker_10 ?_
    refine gc_q (w := wX ad ca K) (u := u) (va_runV (As := [.double (sD u 0)]) (rest := []) ⟨hx, hb, hml, hown, hts⟩ (cX2_takeFirst l dC dI ad ca K H.size u (sD u 0) _ h) (cwV 1 hts (gG_V wd_512 wd_513 wd_514 wd_49 wd_515) rfl rfl rfl (by decide +kernel) ⟨Nat.le_of_ble_eq_true rfl, Nat.le_of_ble_eq_true rfl⟩) ⟨gB_blind xE_ok, va_recv hK hP (ci := 2) (q0 := 4) rfl rfl, gB_pre xE_ok hP hK hD hE hS hA⟩ rfl rfl hl.1 rfl (lv_room (Nat.le_of_ble_eq_true rfl)) dX0_freeWorker_13 ⟨Nat.le_of_ble_eq_true rfl, Nat.le_of_ble_eq_true rfl⟩) hD hS hA (fun r2 u3 H locs h hP hD hS => ?_)
    refine gq_astore_n (r := r2) (lv' := [(2, va_rf r2), (0, .ref (ad 0)), (1, .ref y1)]) hx hb dX0_freeWorker_16 rfl hl (by decide) rfl (fun ls hl => ?_)
    refine gq_aload_n (r := r2) hx hb dX0_freeWorker_17 rfl (lv_at hl 0 rfl) ?_
    rcases r2 with _ | y4
    · have h := h.1 rfl
      refine lv_ifnullN (tgt := 29) hx hb dX0_freeWorker_18 (by decide) ?_
      refine lv_aload_n hx hb dX0_freeWorker_29 rfl (lv_at hl 2 rfl) ?_
      refine lv_aload_n hx hb dX0_freeWorker_30 rfl (lv_at hl 1 rfl) ?_
      refine va_get (D := (dC, dI)) (ci := 0) (v := .double (sD u3 0)) (C := RX0) (T := TX0) (N := 12) hx hb hts uwX0 hown hK hP 0 rfl rfl 11 (by decide) (hts _ wd_183) (fun _ h9 => h9) rfl dX0_freeWorker_31 ?_
      obtain ⟨hy5, h⟩ := h
      refine gc_v (w := wX ad ca K) (u := u3) (va_runV (As := [.double (sD u3 0)]) (rest := []) ⟨hx, hb, hml, hown, hts⟩ (cX4_rest l dC dI ad ca K H.size u3 y1 (sD u3 0) _ hy5 h) (cwV 1 hts (gG_V wd_521 wd_522 wd_523 wd_48 wd_524) rfl rfl rfl (by decide +kernel) ⟨Nat.le_of_ble_eq_true rfl, Nat.le_of_ble_eq_true rfl⟩) ⟨gB_blind xE_ok, (by obtain ⟨k9, hk9⟩ := xW_get hy5; exact va_recv hK hP (ci := 4) (q0 := k9) rfl hk9), gB_pre xE_ok hP hK hD hE hS hA⟩ rfl rfl hl.1 rfl (lv_room (Nat.le_of_ble_eq_true rfl)) dX0_freeWorker_34 ⟨Nat.le_of_ble_eq_true rfl, Nat.le_of_ble_eq_true rfl⟩) hD hS hA (fun u7 H locs h hP hD hS => ?_)
      exact gr_v (w := wX ad ca K) (u := u7) hx hb hr hlocks h hP hK hD hS dX0_freeWorker_37
    · have h := h.2 y4 rfl
      refine lv_ifnull hx hb dX0_freeWorker_18 ?_
      refine lv_aload_n hx hb dX0_freeWorker_21 rfl (lv_at hl 2 rfl) ?_
      refine lv_aload_n hx hb dX0_freeWorker_22 rfl (lv_at hl 0 rfl) ?_
      obtain ⟨hy8, h⟩ := h
      obtain ⟨hy9, h⟩ := h
      refine gc_v (w := wX ad ca K) (u := u3) (va_runV (As := [.ref y4]) (rest := []) ⟨hx, hb, hml, hown, hts⟩ (cX4_begin l dC dI ad ca K H.size u3 y1 y4 _ hy8 hy9 h) (cwV 1 hts (gG_V wd_414 wd_410 wd_411 wd_48 wd_412) rfl rfl rfl (by decide +kernel) ⟨Nat.le_of_ble_eq_true rfl, Nat.le_of_ble_eq_true rfl⟩) ⟨gB_blind xE_ok, (by obtain ⟨k9, hk9⟩ := xW_get hy8; exact va_recv hK hP (ci := 4) (q0 := k9) rfl hk9), gB_pre xE_ok hP hK hD hE hS hA⟩ rfl rfl hl.1 rfl (lv_room (Nat.le_of_ble_eq_true rfl)) dX0_freeWorker_23 ⟨Nat.le_of_ble_eq_true rfl, Nat.le_of_ble_eq_true rfl⟩) hD hS hA (fun u11 H locs h hP hD hS => ?_)
      refine lv_goto (tgt := 37) hx hb dX0_freeWorker_26 (by decide) ?_
      exact gr_v (w := wX ad ca K) (u := u11) hx hb hr hlocks h hP hK hD hS dX0_freeWorker_37

theorem dX0_replaceWorker_0 : decode prog_1_method_29_code 0 = .ok (.aload_n 0, 1) := by decide +kernel
theorem dX0_replaceWorker_1 : decode prog_1_method_29_code 1 = .ok (.getfield 18, 3) := by decide +kernel
theorem dX0_replaceWorker_4 : decode prog_1_method_29_code 4 = .ok (.iload_n 1, 1) := by decide +kernel
theorem dX0_replaceWorker_5 : decode prog_1_method_29_code 5 = .ok (.invokevirtual 301, 3) := by decide +kernel
theorem dX0_replaceWorker_8 : decode prog_1_method_29_code 8 = .ok (.aload_n 0, 1) := by decide +kernel
theorem dX0_replaceWorker_9 : decode prog_1_method_29_code 9 = .ok (.getfield 25, 3) := by decide +kernel
theorem dX0_replaceWorker_12 : decode prog_1_method_29_code 12 = .ok (.aload_n 0, 1) := by decide +kernel
theorem dX0_replaceWorker_13 : decode prog_1_method_29_code 13 = .ok (.getfield 46, 3) := by decide +kernel
theorem dX0_replaceWorker_16 : decode prog_1_method_29_code 16 = .ok (.invokevirtual 304, 3) := by decide +kernel
theorem dX0_replaceWorker_19 : decode prog_1_method_29_code 19 = .ok (.astore_n 2, 1) := by decide +kernel
theorem dX0_replaceWorker_20 : decode prog_1_method_29_code 20 = .ok (.aload_n 2, 1) := by decide +kernel
theorem dX0_replaceWorker_21 : decode prog_1_method_29_code 21 = .ok (.ifnull 11, 3) := by decide +kernel
theorem dX0_replaceWorker_24 : decode prog_1_method_29_code 24 = .ok (.aload_n 0, 1) := by decide +kernel
theorem dX0_replaceWorker_25 : decode prog_1_method_29_code 25 = .ok (.getfield 18, 3) := by decide +kernel
theorem dX0_replaceWorker_28 : decode prog_1_method_29_code 28 = .ok (.aload_n 2, 1) := by decide +kernel
theorem dX0_replaceWorker_29 : decode prog_1_method_29_code 29 = .ok (.invokevirtual 250, 3) := by decide +kernel
theorem dX0_replaceWorker_32 : decode prog_1_method_29_code 32 = .ok (.return_, 1) := by decide +kernel
def wpX0_replaceWorker (K : KX) (post : gS → Prop) (u : gS) (p1 : Int32) : Prop :=
  wpX1_dismiss K (fun (u2 : gS) => wpX2_takeFirst K (fun (r3 : Option Nat) (u4 : gS) => ((r3 = none → (post u4)) ∧ (∀ y5 : Nat, r3 = some y5 → (y5 ∈ K.2.2.1 ∧ (wpX1_hire K (fun (u8 : gS) => post u8) u4 y5))))) u2 (sD u2 0)) u p1

set_option maxHeartbeats 8000000 in
set_option maxRecDepth 100000 in
theorem cX0_replaceWorker (l : Launch) (dC : Nat → ClassId) (dI : Nat → Nat → Nat) (ad : Nat → Nat) (ca : Nat → ClassId) (K : KX) (sz : Nat) (u : gS) (p1 : Int32) (post : gS → Prop)  (h : wpX0_replaceWorker K post u p1) : Met l ⟨"WorkHall", "replaceWorker", "(I)V"⟩ (gw ⟨"WorkHall", "replaceWorker", "(I)V"⟩ prog_1_method_29_code 3 none) ({ frames := 3, cells := 0, slots := 0, locals := 120 } : Room) (va_Pc [.ref (ad 0), .int p1] (gB (dC, dI) vwCl (xT ca) xE (wX ad ca K u) sz)) (va_Qv post (gAt (dC, dI) vwCl (xT ca) (wX ad ca K) (va_A (wX ad ca K u) sz)) (va_A (wX ad ca K u) sz)) 0 0 (va_A (wX ad ca K u) sz) := by
  refine Met.ofW (cc := prog_1_method_29_code) (maxL := 3) (ret := none) (by decide) rfl ?_
  intro p e s m args below meth c s₁ B hml hv
  obtain ⟨rfl, hsz, hP, hK, hD0, hE⟩ := hv
  have hx := B.exec
  have hb := B.bytes
  have hr := B.returns
  have hts : ∀ w ∈ gW, w.before _ s = true := fun w h9 => atoms_spec (ws := (gw ⟨"WorkHall", "replaceWorker", "(I)V"⟩ prog_1_method_29_code 3 none)) B.pre w (List.mem_cons_of_mem _ h9)
  have hown : s.vm.findClass RX0 = some m.cls := findClass_of_methodNamed B.named
  have hlocks := B.notSynchronized
  subst hsz
  have hD := hD0.self (sz := s.heap.size)
  generalize hAe : va_A (wX ad ca K u) s.heap.size = A at hD hE ⊢
  have hA : ∀ q : Nat, s.heap.size ≤ q → A q := fun q h => by rw [← hAe]; exact Or.inr h
  obtain ⟨H, hHe⟩ : ∃ z : Heap, z = s.heap := ⟨_, rfl⟩
  rw [← hHe]
  have hS : va_S A s.heap H [] := by rw [hHe]; exact va_S.rf
  have hP : va_P (dC, dI) vwCl (wX ad ca K u) H := by rw [hHe]; exact hP
  have hl := lv_entry ([.ref (ad 0), .int p1]) (n := 3) (Nat.le_of_ble_eq_true rfl)
  rw [lg_entry_eq]
  generalize (lg_sl ([.ref (ad 0), .int p1]) ++ List.replicate (3 - (lg_sl ([.ref (ad 0), .int p1])).length) Slot.unset).toArray = ls at hl ⊢
  have hl : lv_has ls 3 [(0, .ref (ad 0)), (1, .int p1)] := hl
  clear hAe
  refine lv_aload_n hx hb dX0_replaceWorker_0 rfl (lv_at hl 0 rfl) ?_
  refine va_get (D := (dC, dI)) (ci := 0) (v := .ref (ad 2)) (C := RX0) (T := TX0) (N := 12) hx hb hts uwX0 hown hK hP 0 rfl rfl 5 (by decide) (hts _ wd_177) (fun _ h9 => h9) rfl dX0_replaceWorker_1 ?_
  refine lv_iload_n hx hb dX0_replaceWorker_4 rfl (lv_at hl 1 rfl) ?_
  refine gc_v (w := wX ad ca K) (u := u) (va_runV (As := [.int p1]) (rest := []) ⟨hx, hb, hml, hown, hts⟩ (cX1_dismiss l dC dI ad ca K H.size u p1 _ h) (cwV 1 hts (gG_V wd_508 wd_509 wd_510 wd_47 wd_511) rfl rfl rfl (by decide +kernel) ⟨Nat.le_of_ble_eq_true rfl, Nat.le_of_ble_eq_true rfl⟩) ⟨gB_blind xE_ok, va_recv hK hP (ci := 1) (q0 := 2) rfl rfl, gB_pre xE_ok hP hK hD hE hS hA⟩ rfl rfl hl.1 rfl (lv_room (Nat.le_of_ble_eq_true rfl)) dX0_replaceWorker_5 ⟨Nat.le_of_ble_eq_true rfl, Nat.le_of_ble_eq_true rfl⟩) hD hS hA (fun u2 H locs h hP hD hS => ?_)
  refine lv_aload_n hx hb dX0_replaceWorker_8 rfl (lv_at hl 0 rfl) ?_
  refine va_get (D := (dC, dI)) (ci := 0) (v := .ref (ad 4)) (C := RX0) (T := TX0) (N := 12) hx hb hts uwX0 hown hK hP 0 rfl rfl 6 (by decide) (hts _ wd_178) (fun _ h9 => h9) rfl dX0_replaceWorker_9 ?_
  refine lv_aload_n hx hb dX0_replaceWorker_12 rfl (lv_at hl 0 rfl) ?_
  refine va_get (D := (dC, dI)) (ci := 0) (v := .double (sD u2 0)) (C := RX0) (T := TX0) (N := 12) hx hb hts uwX0 hown hK hP 0 rfl rfl 11 (by decide) (hts _ wd_183) (fun _ h9 => h9) rfl dX0_replaceWorker_13 ?_
  refine gc_q (w := wX ad ca K) (u := u2) (va_runV (As := [.double (sD u2 0)]) (rest := []) ⟨hx, hb, hml, hown, hts⟩ (cX2_takeFirst l dC dI ad ca K H.size u2 (sD u2 0) _ h) (cwV 1 hts (gG_V wd_512 wd_513 wd_514 wd_49 wd_515) rfl rfl rfl (by decide +kernel) ⟨Nat.le_of_ble_eq_true rfl, Nat.le_of_ble_eq_true rfl⟩) ⟨gB_blind xE_ok, va_recv hK hP (ci := 2) (q0 := 4) rfl rfl, gB_pre xE_ok hP hK hD hE hS hA⟩ rfl rfl hl.1 rfl (lv_room (Nat.le_of_ble_eq_true rfl)) dX0_replaceWorker_16 ⟨Nat.le_of_ble_eq_true rfl, Nat.le_of_ble_eq_true rfl⟩) hD hS hA (fun r3 u4 H locs h hP hD hS => ?_)
  refine gq_astore_n (r := r3) (lv' := [(2, va_rf r3), (0, .ref (ad 0)), (1, .int p1)]) hx hb dX0_replaceWorker_19 rfl hl (by decide) rfl (fun ls hl => ?_)
  refine gq_aload_n (r := r3) hx hb dX0_replaceWorker_20 rfl (lv_at hl 0 rfl) ?_
  rcases r3 with _ | y5
  · have h := h.1 rfl
    refine lv_ifnullN (tgt := 32) hx hb dX0_replaceWorker_21 (by decide) ?_
    exact gr_v (w := wX ad ca K) (u := u4) hx hb hr hlocks h hP hK hD hS dX0_replaceWorker_32
  · have h := h.2 y5 rfl
    refine lv_ifnull hx hb dX0_replaceWorker_21 ?_
    refine lv_aload_n hx hb dX0_replaceWorker_24 rfl (lv_at hl 1 rfl) ?_
    refine va_get (D := (dC, dI)) (ci := 0) (v := .ref (ad 2)) (C := RX0) (T := TX0) (N := 12) hx hb hts uwX0 hown hK hP 0 rfl rfl 5 (by decide) (hts _ wd_177) (fun _ h9 => h9) rfl dX0_replaceWorker_25 ?_
    refine lv_aload_n hx hb dX0_replaceWorker_28 rfl (lv_at hl 0 rfl) ?_
    obtain ⟨hy6, h⟩ := h
    refine gc_v (w := wX ad ca K) (u := u4) (va_runV (As := [.ref y5]) (rest := []) ⟨hx, hb, hml, hown, hts⟩ (cX1_hire l dC dI ad ca K H.size u4 y5 _ hy6 h) (cwV 1 hts (gG_V wd_405 wd_406 wd_407 wd_47 wd_408) rfl rfl rfl (by decide +kernel) ⟨Nat.le_of_ble_eq_true rfl, Nat.le_of_ble_eq_true rfl⟩) ⟨gB_blind xE_ok, va_recv hK hP (ci := 1) (q0 := 2) rfl rfl, gB_pre xE_ok hP hK hD hE hS hA⟩ rfl rfl hl.1 rfl (lv_room (Nat.le_of_ble_eq_true rfl)) dX0_replaceWorker_29 ⟨Nat.le_of_ble_eq_true rfl, Nat.le_of_ble_eq_true rfl⟩) hD hS hA (fun u8 H locs h hP hD hS => ?_)
    exact gr_v (w := wX ad ca K) (u := u8) hx hb hr hlocks h hP hK hD hS dX0_replaceWorker_32
end
section
theorem dX0_dismissLongIdle_0 : decode prog_1_method_32_code 0 = .ok (.aload_n 0, 1) := by decide +kernel
theorem dX0_dismissLongIdle_1 : decode prog_1_method_32_code 1 = .ok (.getfield 18, 3) := by decide +kernel
theorem dX0_dismissLongIdle_4 : decode prog_1_method_32_code 4 = .ok (.getfield 214, 3) := by decide +kernel
theorem dX0_dismissLongIdle_7 : decode prog_1_method_32_code 7 = .ok (.istore_n 1, 1) := by decide +kernel
theorem dX0_dismissLongIdle_8 : decode prog_1_method_32_code 8 = .ok (.iconst 0, 1) := by decide +kernel
theorem dX0_dismissLongIdle_9 : decode prog_1_method_32_code 9 = .ok (.istore_n 2, 1) := by decide +kernel
theorem dX0_dismissLongIdle_10 : decode prog_1_method_32_code 10 = .ok (.iconst 0, 1) := by decide +kernel
theorem dX0_dismissLongIdle_11 : decode prog_1_method_32_code 11 = .ok (.istore_n 3, 1) := by decide +kernel
theorem dX0_dismissLongIdle_12 : decode prog_1_method_32_code 12 = .ok (.iload_n 3, 1) := by decide +kernel
theorem dX0_dismissLongIdle_13 : decode prog_1_method_32_code 13 = .ok (.iload_n 1, 1) := by decide +kernel
theorem dX0_dismissLongIdle_14 : decode prog_1_method_32_code 14 = .ok (.if_icmp .ge 77, 3) := by decide +kernel
theorem dX0_dismissLongIdle_17 : decode prog_1_method_32_code 17 = .ok (.aload_n 0, 1) := by decide +kernel
theorem dX0_dismissLongIdle_18 : decode prog_1_method_32_code 18 = .ok (.getfield 18, 3) := by decide +kernel
theorem dX0_dismissLongIdle_21 : decode prog_1_method_32_code 21 = .ok (.getfield 214, 3) := by decide +kernel
theorem dX0_dismissLongIdle_24 : decode prog_1_method_32_code 24 = .ok (.aload_n 0, 1) := by decide +kernel
theorem dX0_dismissLongIdle_25 : decode prog_1_method_32_code 25 = .ok (.getfield 54, 3) := by decide +kernel
theorem dX0_dismissLongIdle_28 : decode prog_1_method_32_code 28 = .ok (.if_icmp .le 63, 3) := by decide +kernel
theorem dX0_dismissLongIdle_31 : decode prog_1_method_32_code 31 = .ok (.aload_n 0, 1) := by decide +kernel
theorem dX0_dismissLongIdle_32 : decode prog_1_method_32_code 32 = .ok (.getfield 18, 3) := by decide +kernel
theorem dX0_dismissLongIdle_35 : decode prog_1_method_32_code 35 = .ok (.iload_n 2, 1) := by decide +kernel
theorem dX0_dismissLongIdle_36 : decode prog_1_method_32_code 36 = .ok (.invokevirtual 135, 3) := by decide +kernel
theorem dX0_dismissLongIdle_39 : decode prog_1_method_32_code 39 = .ok (.astore 4, 2) := by decide +kernel
theorem dX0_dismissLongIdle_41 : decode prog_1_method_32_code 41 = .ok (.aload 4, 2) := by decide +kernel
theorem dX0_dismissLongIdle_43 : decode prog_1_method_32_code 43 = .ok (.ifnull 39, 3) := by decide +kernel
theorem dX0_dismissLongIdle_46 : decode prog_1_method_32_code 46 = .ok (.aload 4, 2) := by decide +kernel
theorem dX0_dismissLongIdle_48 : decode prog_1_method_32_code 48 = .ok (.getfield 295, 3) := by decide +kernel
theorem dX0_dismissLongIdle_51 : decode prog_1_method_32_code 51 = .ok (.ifnonnull 31, 3) := by decide +kernel
theorem dX0_dismissLongIdle_54 : decode prog_1_method_32_code 54 = .ok (.aload_n 0, 1) := by decide +kernel
theorem dX0_dismissLongIdle_55 : decode prog_1_method_32_code 55 = .ok (.getfield 46, 3) := by decide +kernel
theorem dX0_dismissLongIdle_58 : decode prog_1_method_32_code 58 = .ok (.aload 4, 2) := by decide +kernel
theorem dX0_dismissLongIdle_60 : decode prog_1_method_32_code 60 = .ok (.getfield 318, 3) := by decide +kernel
theorem dX0_dismissLongIdle_63 : decode prog_1_method_32_code 63 = .ok (.dsub, 1) := by decide +kernel
theorem dX0_dismissLongIdle_64 : decode prog_1_method_32_code 64 = .ok (.ldc2_w 321, 3) := by decide +kernel
theorem dX0_dismissLongIdle_67 : decode prog_1_method_32_code 67 = .ok (.dcmp .l, 1) := by decide +kernel
theorem dX0_dismissLongIdle_68 : decode prog_1_method_32_code 68 = .ok (.ifCond .lt 14, 3) := by decide +kernel
theorem dX0_dismissLongIdle_71 : decode prog_1_method_32_code 71 = .ok (.aload_n 0, 1) := by decide +kernel
theorem dX0_dismissLongIdle_72 : decode prog_1_method_32_code 72 = .ok (.getfield 18, 3) := by decide +kernel
theorem dX0_dismissLongIdle_75 : decode prog_1_method_32_code 75 = .ok (.iload_n 2, 1) := by decide +kernel
theorem dX0_dismissLongIdle_76 : decode prog_1_method_32_code 76 = .ok (.invokevirtual 301, 3) := by decide +kernel
theorem dX0_dismissLongIdle_79 : decode prog_1_method_32_code 79 = .ok (.goto 6, 3) := by decide +kernel
theorem dX0_dismissLongIdle_82 : decode prog_1_method_32_code 82 = .ok (.iinc 2 1, 3) := by decide +kernel
theorem dX0_dismissLongIdle_85 : decode prog_1_method_32_code 85 = .ok (.iinc 3 1, 3) := by decide +kernel
theorem dX0_dismissLongIdle_88 : decode prog_1_method_32_code 88 = .ok (.goto (-76), 3) := by decide +kernel
theorem dX0_dismissLongIdle_91 : decode prog_1_method_32_code 91 = .ok (.return_, 1) := by decide +kernel
def wpX0_dismissLongIdle_12 (K : KX) (post : gS → Prop) : Nat → Int32 → Int32 → Int32 → gS → Prop
  | 0 => fun _ _ _ _ => False
  | n + 1 => fun l1 l2 l3 u => ((l1 ≤ l3 → (post u)) ∧ (¬ l1 ≤ l3 → ((((sI u 2) ≤ (K.1 0) → (post u)) ∧ (¬ (sI u 2) ≤ (K.1 0) → (wpX1_at K (fun (r4 : Option Nat) (u5 : gS) => ((r4 = none → (∀ x7 : Int32, x7 = l2 + 1 → (∀ x8 : Int32, x8 = l3 + 1 → (wpX0_dismissLongIdle_12 K post n l1 x7 x8 u5)))) ∧ (∀ y6 : Nat, r4 = some y6 → (y6 ∈ K.2.1 ∧ (∀ r10 : Option Nat, r10 = sQ u5 4 y6 → (((r10 = none → (vf_n64 (FP.dsub (sD u5 0) (sB u5 3 y6)) ∧ ((((Op.cmpValue (FP.dcmp (FP.dsub (sD u5 0) (sB u5 3 y6)) 4626322717216342016) .l) < 0 → (∀ x13 : Int32, x13 = l2 + 1 → (∀ x14 : Int32, x14 = l3 + 1 → (wpX0_dismissLongIdle_12 K post n l1 x13 x14 u5)))) ∧ (¬ (Op.cmpValue (FP.dcmp (FP.dsub (sD u5 0) (sB u5 3 y6)) 4626322717216342016) .l) < 0 → (wpX1_dismiss K (fun (u16 : gS) => ∀ x17 : Int32, x17 = l3 + 1 → (wpX0_dismissLongIdle_12 K post n l1 l2 x17 u16)) u5 l2)))))) ∧ (∀ y11 : Nat, r10 = some y11 → (∀ x18 : Int32, x18 = l2 + 1 → (∀ x19 : Int32, x19 = l3 + 1 → (wpX0_dismissLongIdle_12 K post n l1 x18 x19 u5))))))))))) u l2))))))

def wpX0_dismissLongIdle (K : KX) (post : gS → Prop) (u : gS)  : Prop :=
  ∀ x1 : Int32, x1 = sI u 2 → (∃ n12 : Nat, wpX0_dismissLongIdle_12 K post n12 x1 0 0 u)

set_option maxHeartbeats 8000000 in
set_option maxRecDepth 100000 in
theorem wpX0_dismissLongIdle_12_ok {p : Program} {l : Launch} {e : Env} {s : State} {m : MethodId} {args : Array Value} {below : List Frame} {meth : Method} {c : Code} {dC : Nat → ClassId} {dI : Nat → Nat → Nat} {ad : Nat → Nat} {ca : Nat → ClassId} {K : KX} {A : Nat → Prop} {post : gS → Prop}   (hx : p.tables.exec = Jvm.exec) (hb : c.code = prog_1_method_32_code) (hr : meth.sig.returnType = none) (hml : c.maxLocals = 5) (hown : s.vm.findClass RX0 = some m.cls) (hts : ∀ w ∈ gW, w.before args s = true) (hlocks : meth.locks = false) (hK : va_K (dC, dI) vwCl (xT ca) s) (hA : ∀ q, s.heap.size ≤ q → A q) (hE : xE A s s.heap) :
    ∀ (n : Nat) (l1 : Int32) (l2 : Int32) (l3 : Int32) (u : gS) (H : Heap) (locs : List Loc) (ls : Array Slot), wpX0_dismissLongIdle_12 K post n l1 l2 l3 u → va_P (dC, dI) vwCl (wX ad ca K u) H → va_D A (wX ad ca K u) → va_S A s.heap H locs → lv_has ls 5 [(0, .ref (ad 0)), (1, .int l1), (2, .int l2), (3, .int l3)] → W p l e (headSpec (gw ⟨"WorkHall", "dismissLongIdle", "()V"⟩ prog_1_method_32_code 5 none) ({ frames := 3, cells := 0, slots := 0, locals := 120 } : Room)).room s m args below meth c H locs 0 0 (MQ below (va_Qv post (gAt (dC, dI) vwCl (xT ca) (wX ad ca K) (A)) (A)) args s 0 0 A) (F0 m 12 ls []) := by
  intro n
  induction n with
  | zero => exact fun _ _ _ _ _ _ _ h => h.elim
  | succ n ih =>
    intro l1 l2 l3 u H locs ls h hP hD hS hl
    refine lv_iload_n hx hb dX0_dismissLongIdle_12 rfl (lv_at hl 3 rfl) ?_
    refine lv_iload_n hx hb dX0_dismissLongIdle_13 rfl (lv_at hl 1 rfl) ?_
    refine lv_icmp_ge (tgt := 91) hx hb dX0_dismissLongIdle_14 (by decide) (fun c2 => ?_) (fun c2 => ?_)
    · have h := h.1 c2
      exact gr_v (w := wX ad ca K) (u := u) hx hb hr hlocks h hP hK hD hS dX0_dismissLongIdle_91
    · have h := h.2 c2
      refine lv_aload_n hx hb dX0_dismissLongIdle_17 rfl (lv_at hl 0 rfl) ?_
      refine va_get (D := (dC, dI)) (ci := 0) (v := .ref (ad 2)) (C := RX0) (T := TX0) (N := 12) hx hb hts uwX0 hown hK hP 0 rfl rfl 5 (by decide) (hts _ wd_177) (fun _ h9 => h9) rfl dX0_dismissLongIdle_18 ?_
      refine va_get (D := (dC, dI)) (ci := 1) (v := .int (sI u 2)) (C := RX1) (T := TX1) (N := 3) hx hb hts uwX1 hown hK hP 2 rfl rfl 1 (by decide) (hts _ wd_102) (fun _ h9 => h9) rfl dX0_dismissLongIdle_21 ?_
      refine lv_aload_n hx hb dX0_dismissLongIdle_24 rfl (lv_at hl 0 rfl) ?_
      refine va_get (D := (dC, dI)) (ci := 0) (v := .int (K.1 0)) (C := RX0) (T := TX0) (N := 12) hx hb hts uwX0 hown hK hP 0 rfl rfl 0 (by decide) (hts _ wd_172) (fun _ h9 => h9) rfl dX0_dismissLongIdle_25 ?_
      refine lv_icmp_le (tgt := 91) hx hb dX0_dismissLongIdle_28 (by decide) (fun c3 => ?_) (fun c3 => ?_)
      · have h := h.1 c3
        exact gr_v (w := wX ad ca K) (u := u) hx hb hr hlocks h hP hK hD hS dX0_dismissLongIdle_91
      · have h := h.2 c3
        refine lv_aload_n hx hb dX0_dismissLongIdle_31 rfl (lv_at hl 0 rfl) ?_
        refine va_get (D := (dC, dI)) (ci := 0) (v := .ref (ad 2)) (C := RX0) (T := TX0) (N := 12) hx hb hts uwX0 hown hK hP 0 rfl rfl 5 (by decide) (hts _ wd_177) (fun _ h9 => h9) rfl dX0_dismissLongIdle_32 ?_
        refine lv_iload_n hx hb dX0_dismissLongIdle_35 rfl (lv_at hl 2 rfl) ?_
        refine gc_q (w := wX ad ca K) (u := u) (va_runV (As := [.int l2]) (rest := []) ⟨hx, hb, hml, hown, hts⟩ (cX1_at l dC dI ad ca K H.size u l2 _ h) (cwV 1 hts (gG_V wd_503 wd_402 wd_403 wd_47 wd_404) rfl rfl rfl (by decide +kernel) ⟨Nat.le_of_ble_eq_true rfl, Nat.le_of_ble_eq_true rfl⟩) ⟨gB_blind xE_ok, va_recv hK hP (ci := 1) (q0 := 2) rfl rfl, gB_pre xE_ok hP hK hD hE hS hA⟩ rfl rfl hl.1 rfl (lv_room (Nat.le_of_ble_eq_true rfl)) dX0_dismissLongIdle_36 ⟨Nat.le_of_ble_eq_true rfl, Nat.le_of_ble_eq_true rfl⟩) hD hS hA (fun r4 u5 H locs h hP hD hS => ?_)
        refine gq_astore (r := r4) (lv' := [(4, va_rf r4), (0, .ref (ad 0)), (1, .int l1), (2, .int l2), (3, .int l3)]) hx hb dX0_dismissLongIdle_39 hl (by decide) rfl (fun ls hl => ?_)
        refine gq_aload (r := r4) hx hb dX0_dismissLongIdle_41 (lv_at hl 0 rfl) ?_
        rcases r4 with _ | y6
        · have h := h.1 rfl
          refine lv_ifnullN (tgt := 82) hx hb dX0_dismissLongIdle_43 (by decide) ?_
          obtain ⟨x7, ex7⟩ : ∃ y : Int32, y = l2 + 1 := ⟨_, rfl⟩
          have h := h x7 ex7
          refine lv_iinc (v := x7) (lv' := [(2, .int x7), (4, .null), (0, .ref (ad 0)), (1, .int l1), (3, .int l3)]) hx hb dX0_dismissLongIdle_82 hl (k := 3) rfl (by rw [ex7]; rfl) (by decide) rfl (fun ls hl => ?_)
          obtain ⟨x8, ex8⟩ : ∃ y : Int32, y = l3 + 1 := ⟨_, rfl⟩
          have h := h x8 ex8
          refine lv_iinc (v := x8) (lv' := [(3, .int x8), (2, .int x7), (4, .null), (0, .ref (ad 0)), (1, .int l1)]) hx hb dX0_dismissLongIdle_85 hl (k := 4) rfl (by rw [ex8]; rfl) (by decide) rfl (fun ls hl => ?_)
          refine lv_goto (tgt := 12) hx hb dX0_dismissLongIdle_88 (by decide) ?_
          exact ih l1 x7 x8 u5 _ _ _ h hP hD hS (lv_sub hl [3, 4, 1, 0] rfl)
        · have h := h.2 y6 rfl
          refine lv_ifnull hx hb dX0_dismissLongIdle_43 ?_
          refine lv_aload hx hb dX0_dismissLongIdle_46 (lv_at hl 0 rfl) ?_
          obtain ⟨hy9, h⟩ := h
          obtain ⟨k9, hk9⟩ := xW_get hy9
          refine va_get (D := (dC, dI)) (ci := 4) (v := va_rf (sQ u5 4 y6)) (C := RX4) (T := TX4) (N := 3) hx hb hts uwX4 hown hK hP k9 hk9 rfl 0 (by decide) (hts _ wd_88) (fun _ h9 => h9) rfl dX0_dismissLongIdle_48 ?_
          refine gq_top (fun r10 er10 => ?_)
          have h := h r10 er10
          rcases r10 with _ | y11
          · have h := h.1 rfl
            refine lv_ifnonnullN hx hb dX0_dismissLongIdle_51 ?_
            refine lv_aload_n hx hb dX0_dismissLongIdle_54 rfl (lv_at hl 1 rfl) ?_
            refine va_get (D := (dC, dI)) (ci := 0) (v := .double (sD u5 0)) (C := RX0) (T := TX0) (N := 12) hx hb hts uwX0 hown hK hP 0 rfl rfl 11 (by decide) (hts _ wd_183) (fun _ h9 => h9) rfl dX0_dismissLongIdle_55 ?_
            refine lv_aload hx hb dX0_dismissLongIdle_58 (lv_at hl 0 rfl) ?_
            obtain ⟨k9, hk9⟩ := xW_get hy9
            refine va_get (D := (dC, dI)) (ci := 4) (v := .double (sB u5 3 y6)) (C := RX4) (T := TX4) (N := 3) hx hb hts uwX4 hown hK hP k9 hk9 rfl 2 (by decide) (hts _ wd_92) (fun _ h9 => h9) rfl dX0_dismissLongIdle_60 ?_
            refine lv_dsub hx hb dX0_dismissLongIdle_63 h.1 ?_
            have h := h.2
            refine lv_ldc2d (v := 4626322717216342016) hx hb hown (hts _ wd_633) dX0_dismissLongIdle_64 ?_
            refine lv_dcmp hx hb dX0_dismissLongIdle_67 ?_
            refine lv_if_lt (tgt := 82) hx hb dX0_dismissLongIdle_68 (by decide) (fun c12 => ?_) (fun c12 => ?_)
            · have h := h.1 c12
              obtain ⟨x13, ex13⟩ : ∃ y : Int32, y = l2 + 1 := ⟨_, rfl⟩
              have h := h x13 ex13
              refine lv_iinc (v := x13) (lv' := [(2, .int x13), (4, .ref y6), (0, .ref (ad 0)), (1, .int l1), (3, .int l3)]) hx hb dX0_dismissLongIdle_82 hl (k := 3) rfl (by rw [ex13]; rfl) (by decide) rfl (fun ls hl => ?_)
              obtain ⟨x14, ex14⟩ : ∃ y : Int32, y = l3 + 1 := ⟨_, rfl⟩
              have h := h x14 ex14
              refine lv_iinc (v := x14) (lv' := [(3, .int x14), (2, .int x13), (4, .ref y6), (0, .ref (ad 0)), (1, .int l1)]) hx hb dX0_dismissLongIdle_85 hl (k := 4) rfl (by rw [ex14]; rfl) (by decide) rfl (fun ls hl => ?_)
              refine lv_goto (tgt := 12) hx hb dX0_dismissLongIdle_88 (by decide) ?_
              exact ih l1 x13 x14 u5 _ _ _ h hP hD hS (lv_sub hl [3, 4, 1, 0] rfl)
            · have h := h.2 c12
              refine lv_aload_n hx hb dX0_dismissLongIdle_71 rfl (lv_at hl 1 rfl) ?_
              refine va_get (D := (dC, dI)) (ci := 0) (v := .ref (ad 2)) (C := RX0) (T := TX0) (N := 12) hx hb hts uwX0 hown hK hP 0 rfl rfl 5 (by decide) (hts _ wd_177) (fun _ h9 => h9) rfl dX0_dismissLongIdle_72 ?_
              refine lv_iload_n hx hb dX0_dismissLongIdle_75 rfl (lv_at hl 3 rfl) ?_
              refine gc_v (w := wX ad ca K) (u := u5) (va_runV (As := [.int l2]) (rest := []) ⟨hx, hb, hml, hown, hts⟩ (cX1_dismiss l dC dI ad ca K H.size u5 l2 _ h) (cwV 1 hts (gG_V wd_508 wd_509 wd_510 wd_47 wd_511) rfl rfl rfl (by decide +kernel) ⟨Nat.le_of_ble_eq_true rfl, Nat.le_of_ble_eq_true rfl⟩) ⟨gB_blind xE_ok, va_recv hK hP (ci := 1) (q0 := 2) rfl rfl, gB_pre xE_ok hP hK hD hE hS hA⟩ rfl rfl hl.1 rfl (lv_room (Nat.le_of_ble_eq_true rfl)) dX0_dismissLongIdle_76 ⟨Nat.le_of_ble_eq_true rfl, Nat.le_of_ble_eq_true rfl⟩) hD hS hA (fun u16 H locs h hP hD hS => ?_)
              refine lv_goto (tgt := 85) hx hb dX0_dismissLongIdle_79 (by decide) ?_
              obtain ⟨x17, ex17⟩ : ∃ y : Int32, y = l3 + 1 := ⟨_, rfl⟩
              have h := h x17 ex17
              refine lv_iinc (v := x17) (lv' := [(3, .int x17), (4, .ref y6), (0, .ref (ad 0)), (1, .int l1), (2, .int l2)]) hx hb dX0_dismissLongIdle_85 hl (k := 4) rfl (by rw [ex17]; rfl) (by decide) rfl (fun ls hl => ?_)
              refine lv_goto (tgt := 12) hx hb dX0_dismissLongIdle_88 (by decide) ?_
              exact ih l1 l2 x17 u16 _ _ _ h hP hD hS (lv_sub hl [2, 3, 4, 0] rfl)
          · have h := h.2 y11 rfl
            refine lv_ifnonnull (tgt := 82) hx hb dX0_dismissLongIdle_51 (by decide) ?_
            obtain ⟨x18, ex18⟩ : ∃ y : Int32, y = l2 + 1 := ⟨_, rfl⟩
            have h := h x18 ex18
            refine lv_iinc (v := x18) (lv' := [(2, .int x18), (4, .ref y6), (0, .ref (ad 0)), (1, .int l1), (3, .int l3)]) hx hb dX0_dismissLongIdle_82 hl (k := 3) rfl (by rw [ex18]; rfl) (by decide) rfl (fun ls hl => ?_)
            obtain ⟨x19, ex19⟩ : ∃ y : Int32, y = l3 + 1 := ⟨_, rfl⟩
            have h := h x19 ex19
            refine lv_iinc (v := x19) (lv' := [(3, .int x19), (2, .int x18), (4, .ref y6), (0, .ref (ad 0)), (1, .int l1)]) hx hb dX0_dismissLongIdle_85 hl (k := 4) rfl (by rw [ex19]; rfl) (by decide) rfl (fun ls hl => ?_)
            refine lv_goto (tgt := 12) hx hb dX0_dismissLongIdle_88 (by decide) ?_
            exact ih l1 x18 x19 u5 _ _ _ h hP hD hS (lv_sub hl [3, 4, 1, 0] rfl)

set_option maxHeartbeats 8000000 in
set_option maxRecDepth 100000 in
theorem cX0_dismissLongIdle (l : Launch) (dC : Nat → ClassId) (dI : Nat → Nat → Nat) (ad : Nat → Nat) (ca : Nat → ClassId) (K : KX) (sz : Nat) (u : gS)  (post : gS → Prop)  (h : wpX0_dismissLongIdle K post u ) : Met l ⟨"WorkHall", "dismissLongIdle", "()V"⟩ (gw ⟨"WorkHall", "dismissLongIdle", "()V"⟩ prog_1_method_32_code 5 none) ({ frames := 3, cells := 0, slots := 0, locals := 120 } : Room) (va_Pc [.ref (ad 0)] (gB (dC, dI) vwCl (xT ca) xE (wX ad ca K u) sz)) (va_Qv post (gAt (dC, dI) vwCl (xT ca) (wX ad ca K) (va_A (wX ad ca K u) sz)) (va_A (wX ad ca K u) sz)) 0 0 (va_A (wX ad ca K u) sz) := by
  refine Met.ofW (cc := prog_1_method_32_code) (maxL := 5) (ret := none) (by decide) rfl ?_
  intro p e s m args below meth c s₁ B hml hv
  obtain ⟨rfl, hsz, hP, hK, hD0, hE⟩ := hv
  have hx := B.exec
  have hb := B.bytes
  have hr := B.returns
  have hts : ∀ w ∈ gW, w.before _ s = true := fun w h9 => atoms_spec (ws := (gw ⟨"WorkHall", "dismissLongIdle", "()V"⟩ prog_1_method_32_code 5 none)) B.pre w (List.mem_cons_of_mem _ h9)
  have hown : s.vm.findClass RX0 = some m.cls := findClass_of_methodNamed B.named
  have hlocks := B.notSynchronized
  subst hsz
  have hD := hD0.self (sz := s.heap.size)
  generalize hAe : va_A (wX ad ca K u) s.heap.size = A at hD hE ⊢
  have hA : ∀ q : Nat, s.heap.size ≤ q → A q := fun q h => by rw [← hAe]; exact Or.inr h
  obtain ⟨H, hHe⟩ : ∃ z : Heap, z = s.heap := ⟨_, rfl⟩
  rw [← hHe]
  have hS : va_S A s.heap H [] := by rw [hHe]; exact va_S.rf
  have hP : va_P (dC, dI) vwCl (wX ad ca K u) H := by rw [hHe]; exact hP
  have hl := lv_entry ([.ref (ad 0)]) (n := 5) (Nat.le_of_ble_eq_true rfl)
  rw [lg_entry_eq]
  generalize (lg_sl ([.ref (ad 0)]) ++ List.replicate (5 - (lg_sl ([.ref (ad 0)])).length) Slot.unset).toArray = ls at hl ⊢
  have hl : lv_has ls 5 [(0, .ref (ad 0))] := hl
  clear hAe
  refine lv_aload_n hx hb dX0_dismissLongIdle_0 rfl (lv_at hl 0 rfl) ?_
  refine va_get (D := (dC, dI)) (ci := 0) (v := .ref (ad 2)) (C := RX0) (T := TX0) (N := 12) hx hb hts uwX0 hown hK hP 0 rfl rfl 5 (by decide) (hts _ wd_177) (fun _ h9 => h9) rfl dX0_dismissLongIdle_1 ?_
  refine va_get (D := (dC, dI)) (ci := 1) (v := .int (sI u 2)) (C := RX1) (T := TX1) (N := 3) hx hb hts uwX1 hown hK hP 2 rfl rfl 1 (by decide) (hts _ wd_102) (fun _ h9 => h9) rfl dX0_dismissLongIdle_4 ?_
  refine lv_topi (fun x1 ex1 => ?_)
  have h := h x1 ex1
  refine lv_istore_n (lv' := [(1, .int x1), (0, .ref (ad 0))]) hx hb dX0_dismissLongIdle_7 rfl hl (by decide) rfl (fun ls hl => ?_)
  refine lv_iconst (v := 0) hx hb dX0_dismissLongIdle_8 (by decide) ?_
  refine lv_istore_n (lv' := [(2, .int 0), (1, .int x1), (0, .ref (ad 0))]) hx hb dX0_dismissLongIdle_9 rfl hl (by decide) rfl (fun ls hl => ?_)
  refine lv_iconst (v := 0) hx hb dX0_dismissLongIdle_10 (by decide) ?_
  refine lv_istore_n (lv' := [(3, .int 0), (2, .int 0), (1, .int x1), (0, .ref (ad 0))]) hx hb dX0_dismissLongIdle_11 rfl hl (by decide) rfl (fun ls hl => ?_)
  obtain ⟨n12, h⟩ := h
  exact wpX0_dismissLongIdle_12_ok hx hb hr hml hown hts hlocks hK hA hE n12 x1 0 0 u _ _ _ h hP hD hS (lv_sub hl [3, 2, 1, 0] rfl)

theorem dX0_checkRange_0 : decode prog_1_method_17_code 0 = .ok (.iload_n 0, 1) := by decide +kernel
theorem dX0_checkRange_1 : decode prog_1_method_17_code 1 = .ok (.iload_n 1, 1) := by decide +kernel
theorem dX0_checkRange_2 : decode prog_1_method_17_code 2 = .ok (.if_icmp .lt 8, 3) := by decide +kernel
theorem dX0_checkRange_5 : decode prog_1_method_17_code 5 = .ok (.iload_n 0, 1) := by decide +kernel
theorem dX0_checkRange_6 : decode prog_1_method_17_code 6 = .ok (.iload_n 2, 1) := by decide +kernel
theorem dX0_checkRange_7 : decode prog_1_method_17_code 7 = .ok (.if_icmp .le 13, 3) := by decide +kernel
theorem dX0_checkRange_10 : decode prog_1_method_17_code 10 = .ok (.new 104, 3) := by decide +kernel
theorem dX0_checkRange_13 : decode prog_1_method_17_code 13 = .ok (.dup, 1) := by decide +kernel
theorem dX0_checkRange_14 : decode prog_1_method_17_code 14 = .ok (.ldc 239, 2) := by decide +kernel
theorem dX0_checkRange_16 : decode prog_1_method_17_code 16 = .ok (.invokespecial 108, 3) := by decide +kernel
theorem dX0_checkRange_19 : decode prog_1_method_17_code 19 = .ok (.athrow, 1) := by decide +kernel
theorem dX0_checkRange_20 : decode prog_1_method_17_code 20 = .ok (.return_, 1) := by decide +kernel
def wpX0_checkRange (K : KX) (post : gS → Prop) (px : String → gS → Prop) (u : gS) (p1 : Int32) (p2 : Int32) (p3 : Int32) : Prop :=
  ((p1 < p2 → (px "java/lang/IllegalArgumentException" u)) ∧ (¬ p1 < p2 → (((p1 ≤ p3 → (post u)) ∧ (¬ p1 ≤ p3 → (px "java/lang/IllegalArgumentException" u))))))

set_option maxHeartbeats 8000000 in
set_option maxRecDepth 100000 in
theorem cX0_checkRange (l : Launch) (hl9 : l.stackTraces = false) (dC : Nat → ClassId) (dI : Nat → Nat → Nat) (ad : Nat → Nat) (ca : Nat → ClassId) (K : KX) (sz : Nat) (u : gS) (p1 : Int32) (p2 : Int32) (p3 : Int32) (post : gS → Prop) (px : String → gS → Prop)  (h : wpX0_checkRange K post px u p1 p2 p3) : vx_Met l ⟨"WorkHall", "checkRange", "(III)V"⟩ (gw ⟨"WorkHall", "checkRange", "(III)V"⟩ prog_1_method_17_code 3 none) ({ frames := 7, cells := 1, slots := 6, locals := 280 } : Room) (va_Pc [.int p1, .int p2, .int p3] (gB (dC, dI) vwCl (xT ca) xE (wX ad ca K u) sz)) (va_Qv post (gAt (dC, dI) vwCl (xT ca) (wX ad ca K) (va_A (wX ad ca K u) sz)) (va_A (wX ad ca K u) sz)) (gX (dC, dI) vwCl (xT ca) (wX ad ca K) px (va_A (wX ad ca K u) sz)) 1 6 (va_A (wX ad ca K u) sz) := by
  refine vx_ofW (cc := prog_1_method_17_code) (maxL := 3) (ret := none) (by decide) rfl ?_
  intro p e s m args below meth c s₁ B hml hno hv
  obtain ⟨rfl, hsz, hP, hK, hD0, hE⟩ := hv
  have hx := B.exec
  have hb := B.bytes
  have hr := B.returns
  have hts : ∀ w ∈ gW, w.before _ s = true := fun w h9 => atoms_spec (ws := (gw ⟨"WorkHall", "checkRange", "(III)V"⟩ prog_1_method_17_code 3 none)) B.pre w (List.mem_cons_of_mem _ h9)
  have hown : s.vm.findClass RX0 = some m.cls := findClass_of_methodNamed B.named
  have hlocks := B.notSynchronized
  subst hsz
  have hD := hD0.self (sz := s.heap.size)
  generalize hAe : va_A (wX ad ca K u) s.heap.size = A at hD hE ⊢
  have hA : ∀ q : Nat, s.heap.size ≤ q → A q := fun q h => by rw [← hAe]; exact Or.inr h
  obtain ⟨H, hHe⟩ : ∃ z : Heap, z = s.heap := ⟨_, rfl⟩
  rw [← hHe]
  have hS : va_S A s.heap H [] := by rw [hHe]; exact va_S.rf
  have hP : va_P (dC, dI) vwCl (wX ad ca K u) H := by rw [hHe]; exact hP
  have hl := lv_entry ([.int p1, .int p2, .int p3]) (n := 3) (Nat.le_of_ble_eq_true rfl)
  rw [lg_entry_eq]
  generalize (lg_sl ([.int p1, .int p2, .int p3]) ++ List.replicate (3 - (lg_sl ([.int p1, .int p2, .int p3])).length) Slot.unset).toArray = ls at hl ⊢
  have hl : lv_has ls 3 [(0, .int p1), (1, .int p2), (2, .int p3)] := hl
  clear hAe
  refine lv_iload_n hx hb dX0_checkRange_0 rfl (lv_at hl 0 rfl) ?_
  refine lv_iload_n hx hb dX0_checkRange_1 rfl (lv_at hl 1 rfl) ?_
  refine lv_icmp_lt (tgt := 10) hx hb dX0_checkRange_2 (by decide) (fun c1 => ?_) (fun c1 => ?_)
  · have h := h.1 c1
    obtain ⟨sa9, hs9⟩ := xE_text hE 239 "a number is out of range" (by decide +kernel); exact vx_throwS (names := xSup) hx hb hl9 hown (by decide +kernel) (by decide +kernel) (hts _ wd_224) (hts _ wd_56) hs9 (tw_iae hts (xE_face hE)) tg_iae (xE_U hE) (xE_N hE) hS (hl.1.trans hml.symm) dX0_checkRange_10 dX0_checkRange_13 dX0_checkRange_14 dX0_checkRange_16 dX0_checkRange_19 (fun x hx => (hno x hx).elim) (Nat.le_of_ble_eq_true rfl) (Nat.le_of_ble_eq_true rfl) (Nat.le_of_ble_eq_true rfl) (Nat.le_of_ble_eq_true rfl) hlocks (fun t ha hz hq => gx_thrown h hP hK hD hS ha hz hq) hS.2.2 (Nat.le_of_ble_eq_true rfl) (Nat.le_of_ble_eq_true rfl)
  · have h := h.2 c1
    refine lv_iload_n hx hb dX0_checkRange_5 rfl (lv_at hl 0 rfl) ?_
    refine lv_iload_n hx hb dX0_checkRange_6 rfl (lv_at hl 2 rfl) ?_
    refine lv_icmp_le (tgt := 20) hx hb dX0_checkRange_7 (by decide) (fun c2 => ?_) (fun c2 => ?_)
    · have h := h.1 c2
      refine W.widen (k := 1) (n := 6) (Nat.le_of_ble_eq_true rfl) (Nat.le_of_ble_eq_true rfl) (vx_ret ?_); exact gr_v (w := wX ad ca K) (u := u) hx hb hr hlocks h hP hK hD hS dX0_checkRange_20
    · have h := h.2 c2
      obtain ⟨sa9, hs9⟩ := xE_text hE 239 "a number is out of range" (by decide +kernel); exact vx_throwS (names := xSup) hx hb hl9 hown (by decide +kernel) (by decide +kernel) (hts _ wd_224) (hts _ wd_56) hs9 (tw_iae hts (xE_face hE)) tg_iae (xE_U hE) (xE_N hE) hS (hl.1.trans hml.symm) dX0_checkRange_10 dX0_checkRange_13 dX0_checkRange_14 dX0_checkRange_16 dX0_checkRange_19 (fun x hx => (hno x hx).elim) (Nat.le_of_ble_eq_true rfl) (Nat.le_of_ble_eq_true rfl) (Nat.le_of_ble_eq_true rfl) (Nat.le_of_ble_eq_true rfl) hlocks (fun t ha hz hq => gx_thrown h hP hK hD hS ha hz hq) hS.2.2 (Nat.le_of_ble_eq_true rfl) (Nat.le_of_ble_eq_true rfl)

theorem dX0_checkSpan_0 : decode prog_1_method_18_code 0 = .ok (.dload_n 0, 1) := by decide +kernel
theorem dX0_checkSpan_1 : decode prog_1_method_18_code 1 = .ok (.dconst 0, 1) := by decide +kernel
theorem dX0_checkSpan_2 : decode prog_1_method_18_code 2 = .ok (.dcmp .l, 1) := by decide +kernel
theorem dX0_checkSpan_3 : decode prog_1_method_18_code 3 = .ok (.ifCond .lt 10, 3) := by decide +kernel
theorem dX0_checkSpan_6 : decode prog_1_method_18_code 6 = .ok (.dload_n 0, 1) := by decide +kernel
theorem dX0_checkSpan_7 : decode prog_1_method_18_code 7 = .ok (.iload_n 2, 1) := by decide +kernel
theorem dX0_checkSpan_8 : decode prog_1_method_18_code 8 = .ok (.i2d, 1) := by decide +kernel
theorem dX0_checkSpan_9 : decode prog_1_method_18_code 9 = .ok (.dcmp .g, 1) := by decide +kernel
theorem dX0_checkSpan_10 : decode prog_1_method_18_code 10 = .ok (.ifCond .le 13, 3) := by decide +kernel
theorem dX0_checkSpan_13 : decode prog_1_method_18_code 13 = .ok (.new 104, 3) := by decide +kernel
theorem dX0_checkSpan_16 : decode prog_1_method_18_code 16 = .ok (.dup, 1) := by decide +kernel
theorem dX0_checkSpan_17 : decode prog_1_method_18_code 17 = .ok (.ldc 239, 2) := by decide +kernel
theorem dX0_checkSpan_19 : decode prog_1_method_18_code 19 = .ok (.invokespecial 108, 3) := by decide +kernel
theorem dX0_checkSpan_22 : decode prog_1_method_18_code 22 = .ok (.athrow, 1) := by decide +kernel
theorem dX0_checkSpan_23 : decode prog_1_method_18_code 23 = .ok (.return_, 1) := by decide +kernel
def wpX0_checkSpan (K : KX) (post : gS → Prop) (px : String → gS → Prop) (u : gS) (p1 : UInt64) (p2 : Int32) : Prop :=
  (((Op.cmpValue (FP.dcmp p1 FP.dconst0) .l) < 0 → (px "java/lang/IllegalArgumentException" u)) ∧ (¬ (Op.cmpValue (FP.dcmp p1 FP.dconst0) .l) < 0 → ((((Op.cmpValue (FP.dcmp p1 (FP.i2d p2)) .g) ≤ 0 → (post u)) ∧ (¬ (Op.cmpValue (FP.dcmp p1 (FP.i2d p2)) .g) ≤ 0 → (px "java/lang/IllegalArgumentException" u))))))

set_option maxHeartbeats 8000000 in
set_option maxRecDepth 100000 in
theorem cX0_checkSpan (l : Launch) (hl9 : l.stackTraces = false) (dC : Nat → ClassId) (dI : Nat → Nat → Nat) (ad : Nat → Nat) (ca : Nat → ClassId) (K : KX) (sz : Nat) (u : gS) (p1 : UInt64) (p2 : Int32) (post : gS → Prop) (px : String → gS → Prop)  (h : wpX0_checkSpan K post px u p1 p2) : vx_Met l ⟨"WorkHall", "checkSpan", "(DI)V"⟩ (gw ⟨"WorkHall", "checkSpan", "(DI)V"⟩ prog_1_method_18_code 3 none) ({ frames := 7, cells := 1, slots := 6, locals := 280 } : Room) (va_Pc [.double p1, .int p2] (gB (dC, dI) vwCl (xT ca) xE (wX ad ca K u) sz)) (va_Qv post (gAt (dC, dI) vwCl (xT ca) (wX ad ca K) (va_A (wX ad ca K u) sz)) (va_A (wX ad ca K u) sz)) (gX (dC, dI) vwCl (xT ca) (wX ad ca K) px (va_A (wX ad ca K u) sz)) 1 6 (va_A (wX ad ca K u) sz) := by
  refine vx_ofW (cc := prog_1_method_18_code) (maxL := 3) (ret := none) (by decide) rfl ?_
  intro p e s m args below meth c s₁ B hml hno hv
  obtain ⟨rfl, hsz, hP, hK, hD0, hE⟩ := hv
  have hx := B.exec
  have hb := B.bytes
  have hr := B.returns
  have hts : ∀ w ∈ gW, w.before _ s = true := fun w h9 => atoms_spec (ws := (gw ⟨"WorkHall", "checkSpan", "(DI)V"⟩ prog_1_method_18_code 3 none)) B.pre w (List.mem_cons_of_mem _ h9)
  have hown : s.vm.findClass RX0 = some m.cls := findClass_of_methodNamed B.named
  have hlocks := B.notSynchronized
  subst hsz
  have hD := hD0.self (sz := s.heap.size)
  generalize hAe : va_A (wX ad ca K u) s.heap.size = A at hD hE ⊢
  have hA : ∀ q : Nat, s.heap.size ≤ q → A q := fun q h => by rw [← hAe]; exact Or.inr h
  obtain ⟨H, hHe⟩ : ∃ z : Heap, z = s.heap := ⟨_, rfl⟩
  rw [← hHe]
  have hS : va_S A s.heap H [] := by rw [hHe]; exact va_S.rf
  have hP : va_P (dC, dI) vwCl (wX ad ca K u) H := by rw [hHe]; exact hP
  have hl := lv_entry ([.double p1, .int p2]) (n := 3) (Nat.le_of_ble_eq_true rfl)
  rw [lg_entry_eq]
  generalize (lg_sl ([.double p1, .int p2]) ++ List.replicate (3 - (lg_sl ([.double p1, .int p2])).length) Slot.unset).toArray = ls at hl ⊢
  have hl : lv_has ls 3 [(0, .double p1), (2, .int p2)] := hl
  clear hAe
  refine lv_dload_n hx hb dX0_checkSpan_0 rfl (lv_at hl 0 rfl) ?_
  refine lv_dconst0 hx hb dX0_checkSpan_1 ?_
  refine lv_dcmp hx hb dX0_checkSpan_2 ?_
  refine lv_if_lt (tgt := 13) hx hb dX0_checkSpan_3 (by decide) (fun c1 => ?_) (fun c1 => ?_)
  · have h := h.1 c1
    obtain ⟨sa9, hs9⟩ := xE_text hE 239 "a number is out of range" (by decide +kernel); exact vx_throwS (names := xSup) hx hb hl9 hown (by decide +kernel) (by decide +kernel) (hts _ wd_224) (hts _ wd_56) hs9 (tw_iae hts (xE_face hE)) tg_iae (xE_U hE) (xE_N hE) hS (hl.1.trans hml.symm) dX0_checkSpan_13 dX0_checkSpan_16 dX0_checkSpan_17 dX0_checkSpan_19 dX0_checkSpan_22 (fun x hx => (hno x hx).elim) (Nat.le_of_ble_eq_true rfl) (Nat.le_of_ble_eq_true rfl) (Nat.le_of_ble_eq_true rfl) (Nat.le_of_ble_eq_true rfl) hlocks (fun t ha hz hq => gx_thrown h hP hK hD hS ha hz hq) hS.2.2 (Nat.le_of_ble_eq_true rfl) (Nat.le_of_ble_eq_true rfl)
  · have h := h.2 c1
    refine lv_dload_n hx hb dX0_checkSpan_6 rfl (lv_at hl 0 rfl) ?_
    refine lv_iload_n hx hb dX0_checkSpan_7 rfl (lv_at hl 1 rfl) ?_
    refine lv_i2d hx hb dX0_checkSpan_8 ?_
    refine lv_dcmp hx hb dX0_checkSpan_9 ?_
    refine lv_if_le (tgt := 23) hx hb dX0_checkSpan_10 (by decide) (fun c2 => ?_) (fun c2 => ?_)
    · have h := h.1 c2
      refine W.widen (k := 1) (n := 6) (Nat.le_of_ble_eq_true rfl) (Nat.le_of_ble_eq_true rfl) (vx_ret ?_); exact gr_v (w := wX ad ca K) (u := u) hx hb hr hlocks h hP hK hD hS dX0_checkSpan_23
    · have h := h.2 c2
      obtain ⟨sa9, hs9⟩ := xE_text hE 239 "a number is out of range" (by decide +kernel); exact vx_throwS (names := xSup) hx hb hl9 hown (by decide +kernel) (by decide +kernel) (hts _ wd_224) (hts _ wd_56) hs9 (tw_iae hts (xE_face hE)) tg_iae (xE_U hE) (xE_N hE) hS (hl.1.trans hml.symm) dX0_checkSpan_13 dX0_checkSpan_16 dX0_checkSpan_17 dX0_checkSpan_19 dX0_checkSpan_22 (fun x hx => (hno x hx).elim) (Nat.le_of_ble_eq_true rfl) (Nat.le_of_ble_eq_true rfl) (Nat.le_of_ble_eq_true rfl) (Nat.le_of_ble_eq_true rfl) hlocks (fun t ha hz hq => gx_thrown h hP hK hD hS ha hz hq) hS.2.2 (Nat.le_of_ble_eq_true rfl) (Nat.le_of_ble_eq_true rfl)

theorem dX0_known_0 : decode prog_1_method_19_code 0 = .ok (.iload_n 1, 1) := by decide +kernel
theorem dX0_known_1 : decode prog_1_method_19_code 1 = .ok (.iconst 0, 1) := by decide +kernel
theorem dX0_known_2 : decode prog_1_method_19_code 2 = .ok (.bipush 23, 2) := by decide +kernel
theorem dX0_known_4 : decode prog_1_method_19_code 4 = .ok (.invokestatic 72, 3) := by decide +kernel
theorem dX0_known_7 : decode prog_1_method_19_code 7 = .ok (.aload_n 0, 1) := by decide +kernel
theorem dX0_known_8 : decode prog_1_method_19_code 8 = .ok (.iload_n 1, 1) := by decide +kernel
theorem dX0_known_9 : decode prog_1_method_19_code 9 = .ok (.invokevirtual 241, 3) := by decide +kernel
theorem dX0_known_12 : decode prog_1_method_19_code 12 = .ok (.astore_n 2, 1) := by decide +kernel
theorem dX0_known_13 : decode prog_1_method_19_code 13 = .ok (.aload_n 2, 1) := by decide +kernel
theorem dX0_known_14 : decode prog_1_method_19_code 14 = .ok (.ifnonnull 13, 3) := by decide +kernel
theorem dX0_known_17 : decode prog_1_method_19_code 17 = .ok (.new 146, 3) := by decide +kernel
theorem dX0_known_20 : decode prog_1_method_19_code 20 = .ok (.dup, 1) := by decide +kernel
theorem dX0_known_21 : decode prog_1_method_19_code 21 = .ok (.ldc 244, 2) := by decide +kernel
theorem dX0_known_23 : decode prog_1_method_19_code 23 = .ok (.invokespecial 150, 3) := by decide +kernel
theorem dX0_known_26 : decode prog_1_method_19_code 26 = .ok (.athrow, 1) := by decide +kernel
theorem dX0_known_27 : decode prog_1_method_19_code 27 = .ok (.aload_n 2, 1) := by decide +kernel
theorem dX0_known_28 : decode prog_1_method_19_code 28 = .ok (.areturn, 1) := by decide +kernel
def wpX0_known (K : KX) (post : Option Nat → gS → Prop) (px : String → gS → Prop) (u : gS) (p1 : Int32) : Prop :=
  wpX0_checkRange K (fun (u2 : gS) => wpX0_find K (fun (r3 : Option Nat) (u4 : gS) => ((r3 = none → (px "java/util/NoSuchElementException" u4)) ∧ (∀ y5 : Nat, r3 = some y5 → (post (some y5) u4)))) u2 p1) px u p1 0 23

set_option maxHeartbeats 8000000 in
set_option maxRecDepth 100000 in
theorem cX0_known (l : Launch) (hl9 : l.stackTraces = false) (dC : Nat → ClassId) (dI : Nat → Nat → Nat) (ad : Nat → Nat) (ca : Nat → ClassId) (K : KX) (sz : Nat) (u : gS) (p1 : Int32) (post : Option Nat → gS → Prop) (px : String → gS → Prop)  (h : wpX0_known K post px u p1) : vx_Met l ⟨"WorkHall", "known", "(I)LWorkHall$Job;"⟩ (gw ⟨"WorkHall", "known", "(I)LWorkHall$Job;"⟩ prog_1_method_19_code 3 (some (.object "WorkHall$Job"))) ({ frames := 8, cells := 2, slots := 12, locals := 320 } : Room) (va_Pc [.ref (ad 0), .int p1] (gB (dC, dI) vwCl (xT ca) xE (wX ad ca K u) sz)) (va_Qq post (gAt (dC, dI) vwCl (xT ca) (wX ad ca K) (va_A (wX ad ca K u) sz)) (va_A (wX ad ca K u) sz)) (gX (dC, dI) vwCl (xT ca) (wX ad ca K) px (va_A (wX ad ca K u) sz)) 2 12 (va_A (wX ad ca K u) sz) := by
  refine vx_ofW (cc := prog_1_method_19_code) (maxL := 3) (ret := (some (.object "WorkHall$Job"))) (by decide) rfl ?_
  intro p e s m args below meth c s₁ B hml hno hv
  obtain ⟨rfl, hsz, hP, hK, hD0, hE⟩ := hv
  have hx := B.exec
  have hb := B.bytes
  have hr := B.returns
  have hts : ∀ w ∈ gW, w.before _ s = true := fun w h9 => atoms_spec (ws := (gw ⟨"WorkHall", "known", "(I)LWorkHall$Job;"⟩ prog_1_method_19_code 3 (some (.object "WorkHall$Job")))) B.pre w (List.mem_cons_of_mem _ h9)
  have hown : s.vm.findClass RX0 = some m.cls := findClass_of_methodNamed B.named
  have hlocks := B.notSynchronized
  subst hsz
  have hD := hD0.self (sz := s.heap.size)
  generalize hAe : va_A (wX ad ca K u) s.heap.size = A at hD hE ⊢
  have hA : ∀ q : Nat, s.heap.size ≤ q → A q := fun q h => by rw [← hAe]; exact Or.inr h
  obtain ⟨H, hHe⟩ : ∃ z : Heap, z = s.heap := ⟨_, rfl⟩
  rw [← hHe]
  have hS : va_S A s.heap H [] := by rw [hHe]; exact va_S.rf
  have hP : va_P (dC, dI) vwCl (wX ad ca K u) H := by rw [hHe]; exact hP
  have hl := lv_entry ([.ref (ad 0), .int p1]) (n := 3) (Nat.le_of_ble_eq_true rfl)
  rw [lg_entry_eq]
  generalize (lg_sl ([.ref (ad 0), .int p1]) ++ List.replicate (3 - (lg_sl ([.ref (ad 0), .int p1])).length) Slot.unset).toArray = ls at hl ⊢
  have hl : lv_has ls 3 [(0, .ref (ad 0)), (1, .int p1)] := hl
  clear hAe
  refine lv_iload_n hx hb dX0_known_0 rfl (lv_at hl 1 rfl) ?_
  refine lv_iconst (v := 0) hx hb dX0_known_1 (by decide) ?_
  refine lv_bipush (v := 23) hx hb dX0_known_2 (by decide) ?_
  refine gxc_v (w := wX ad ca K) (u := u) (vx_runS (As := [.int p1, .int 0, .int 23]) (rest := []) ⟨hx, hb, hml, hown, hts⟩ (cX0_checkRange l hl9 dC dI ad ca K H.size u p1 0 23 _ _ h) (va_cwS 3 hts (gG_S wd_221 wd_222 wd_46 wd_223) rfl rfl rfl (by decide +kernel) ⟨Nat.le_of_ble_eq_true rfl, Nat.le_of_ble_eq_true rfl⟩) ⟨gB_blind xE_ok, gB_pre xE_ok hP hK hD hE hS hA⟩ rfl rfl hl.1 rfl (lv_room (Nat.le_of_ble_eq_true rfl)) dX0_known_4 ⟨Nat.le_of_ble_eq_true rfl, Nat.le_of_ble_eq_true rfl⟩) hD hS hA (fun E9 ce9 q9 u9 H locs h hP hD hS hce hcv hcl => gx_out hno hlocks h hP hK hD hS hce hcv hcl (Nat.le_of_ble_eq_true rfl) (Nat.le_of_ble_eq_true rfl)) (fun u2 H locs h hP hD hS => ?_)
  refine lv_aload_n hx hb dX0_known_7 rfl (lv_at hl 0 rfl) ?_
  refine lv_iload_n hx hb dX0_known_8 rfl (lv_at hl 1 rfl) ?_
  refine gc_q (w := wX ad ca K) (u := u2) (va_runV (As := [.int p1]) (rest := []) ⟨hx, hb, hml, hown, hts⟩ (cX0_find l dC dI ad ca K H.size u2 p1 _ h) (cwV 1 hts (gG_V wd_368 wd_370 wd_2 wd_46 wd_371) rfl rfl rfl (by decide +kernel) ⟨Nat.le_of_ble_eq_true rfl, Nat.le_of_ble_eq_true rfl⟩) ⟨gB_blind xE_ok, va_recv hK hP (ci := 0) (q0 := 0) rfl rfl, gB_pre xE_ok hP hK hD hE hS hA⟩ rfl rfl hl.1 rfl (lv_room (Nat.le_of_ble_eq_true rfl)) dX0_known_9 ⟨Nat.le_of_ble_eq_true rfl, Nat.le_of_ble_eq_true rfl⟩) hD hS hA (fun r3 u4 H locs h hP hD hS => ?_)
  refine gq_astore_n (r := r3) (lv' := [(2, va_rf r3), (0, .ref (ad 0)), (1, .int p1)]) hx hb dX0_known_12 rfl hl (by decide) rfl (fun ls hl => ?_)
  refine gq_aload_n (r := r3) hx hb dX0_known_13 rfl (lv_at hl 0 rfl) ?_
  rcases r3 with _ | y5
  · have h := h.1 rfl
    refine lv_ifnonnullN hx hb dX0_known_14 ?_
    obtain ⟨sa9, hs9⟩ := xE_text hE 244 "there is no such job" (by decide +kernel); exact vn_throwS (r := xSup1) (Y := "java/lang/RuntimeException") hx hb hl9 dN_0 dN_1 dN_2 dN_5 hown (by decide +kernel) (by decide +kernel) (by decide +kernel) (hts _ wd_372) (hts _ wd_59) hs9 (tw_nse hts (xE_face hE)) tg_nse (xE_U hE) (xE_N hE) hS (hl.1.trans hml.symm) dX0_known_17 dX0_known_20 dX0_known_21 dX0_known_23 dX0_known_26 (fun x hx => (hno x hx).elim) (Nat.le_of_ble_eq_true rfl) (Nat.le_of_ble_eq_true rfl) (Nat.le_of_ble_eq_true rfl) (Nat.le_of_ble_eq_true rfl) hlocks (fun t ha hz hq => gx_thrown h hP hK hD hS ha hz hq) hS.2.2 (Nat.le_of_ble_eq_true rfl) (Nat.le_of_ble_eq_true rfl)
  · have h := h.2 y5 rfl
    refine lv_ifnonnull (tgt := 27) hx hb dX0_known_14 (by decide) ?_
    refine lv_aload_n hx hb dX0_known_27 rfl (lv_at hl 0 rfl) ?_
    refine W.widen (k := 2) (n := 12) (Nat.le_of_ble_eq_true rfl) (Nat.le_of_ble_eq_true rfl) (vx_ret ?_); exact gr_q (w := wX ad ca K) (u := u4) (v := (some y5)) hx hb hr hlocks h hP hK hD hS dX0_known_28

theorem dX0_then_0 : decode prog_1_method_4_code 0 = .ok (.iload_n 2, 1) := by decide +kernel
theorem dX0_then_1 : decode prog_1_method_4_code 1 = .ok (.iconst 0, 1) := by decide +kernel
theorem dX0_then_2 : decode prog_1_method_4_code 2 = .ok (.bipush 23, 2) := by decide +kernel
theorem dX0_then_4 : decode prog_1_method_4_code 4 = .ok (.invokestatic 72, 3) := by decide +kernel
theorem dX0_then_7 : decode prog_1_method_4_code 7 = .ok (.aload_n 0, 1) := by decide +kernel
theorem dX0_then_8 : decode prog_1_method_4_code 8 = .ok (.iload_n 1, 1) := by decide +kernel
theorem dX0_then_9 : decode prog_1_method_4_code 9 = .ok (.invokevirtual 86, 3) := by decide +kernel
theorem dX0_then_12 : decode prog_1_method_4_code 12 = .ok (.astore_n 3, 1) := by decide +kernel
theorem dX0_then_13 : decode prog_1_method_4_code 13 = .ok (.aload_n 0, 1) := by decide +kernel
theorem dX0_then_14 : decode prog_1_method_4_code 14 = .ok (.iload_n 2, 1) := by decide +kernel
theorem dX0_then_15 : decode prog_1_method_4_code 15 = .ok (.invokevirtual 86, 3) := by decide +kernel
theorem dX0_then_18 : decode prog_1_method_4_code 18 = .ok (.astore 4, 2) := by decide +kernel
theorem dX0_then_20 : decode prog_1_method_4_code 20 = .ok (.aload_n 3, 1) := by decide +kernel
theorem dX0_then_21 : decode prog_1_method_4_code 21 = .ok (.aload 4, 2) := by decide +kernel
theorem dX0_then_23 : decode prog_1_method_4_code 23 = .ok (.if_acmp .ne 13, 3) := by decide +kernel
theorem dX0_then_26 : decode prog_1_method_4_code 26 = .ok (.new 104, 3) := by decide +kernel
theorem dX0_then_29 : decode prog_1_method_4_code 29 = .ok (.dup, 1) := by decide +kernel
theorem dX0_then_30 : decode prog_1_method_4_code 30 = .ok (.ldc 106, 2) := by decide +kernel
theorem dX0_then_32 : decode prog_1_method_4_code 32 = .ok (.invokespecial 108, 3) := by decide +kernel
theorem dX0_then_35 : decode prog_1_method_4_code 35 = .ok (.athrow, 1) := by decide +kernel
theorem dX0_then_36 : decode prog_1_method_4_code 36 = .ok (.aload_n 3, 1) := by decide +kernel
theorem dX0_then_37 : decode prog_1_method_4_code 37 = .ok (.getfield 90, 3) := by decide +kernel
theorem dX0_then_40 : decode prog_1_method_4_code 40 = .ok (.iconst 2, 1) := by decide +kernel
theorem dX0_then_41 : decode prog_1_method_4_code 41 = .ok (.if_icmp .le 13, 3) := by decide +kernel
theorem dX0_then_44 : decode prog_1_method_4_code 44 = .ok (.new 76, 3) := by decide +kernel
theorem dX0_then_47 : decode prog_1_method_4_code 47 = .ok (.dup, 1) := by decide +kernel
theorem dX0_then_48 : decode prog_1_method_4_code 48 = .ok (.ldc 109, 2) := by decide +kernel
theorem dX0_then_50 : decode prog_1_method_4_code 50 = .ok (.invokespecial 80, 3) := by decide +kernel
theorem dX0_then_53 : decode prog_1_method_4_code 53 = .ok (.athrow, 1) := by decide +kernel
theorem dX0_then_54 : decode prog_1_method_4_code 54 = .ok (.aload_n 3, 1) := by decide +kernel
theorem dX0_then_55 : decode prog_1_method_4_code 55 = .ok (.invokevirtual 111, 3) := by decide +kernel
theorem dX0_then_58 : decode prog_1_method_4_code 58 = .ok (.istore 5, 2) := by decide +kernel
theorem dX0_then_60 : decode prog_1_method_4_code 60 = .ok (.aload_n 3, 1) := by decide +kernel
theorem dX0_then_61 : decode prog_1_method_4_code 61 = .ok (.aload 4, 2) := by decide +kernel
theorem dX0_then_63 : decode prog_1_method_4_code 63 = .ok (.putfield 115, 3) := by decide +kernel
theorem dX0_then_66 : decode prog_1_method_4_code 66 = .ok (.iload 5, 2) := by decide +kernel
theorem dX0_then_68 : decode prog_1_method_4_code 68 = .ok (.ireturn, 1) := by decide +kernel
def wpX0_then (K : KX) (post : Int32 → gS → Prop) (px : String → gS → Prop) (u : gS) (p1 : Int32) (p2 : Int32) : Prop :=
  wpX0_checkRange K (fun (u2 : gS) => wpX0_known K (fun (r3 : Option Nat) (u4 : gS) => wpX0_known K (fun (r5 : Option Nat) (u6 : gS) => ((¬ r3 = r5 → (∃ y8 : Nat, r3 = some y8 ∧ y8 ∈ K.2.2.1 ∧ ((((sA u6 0 y8) ≤ 2 → (wpX5_nextNumber K (fun (r11 : Int32) (u12 : gS) => ∀ u13 : gS, u13 = tQ u12 3 y8 r5 → (post r11 u13)) u6 y8)) ∧ (¬ (sA u6 0 y8) ≤ 2 → (px "java/lang/IllegalStateException" u6)))))) ∧ (r3 = r5 → (px "java/lang/IllegalArgumentException" u6)))) px u4 p2) px u2 p1) px u p2 0 23

set_option maxHeartbeats 8000000 in
set_option maxRecDepth 100000 in
theorem cX0_then (l : Launch) (hl9 : l.stackTraces = false) (dC : Nat → ClassId) (dI : Nat → Nat → Nat) (ad : Nat → Nat) (ca : Nat → ClassId) (K : KX) (sz : Nat) (u : gS) (p1 : Int32) (p2 : Int32) (post : Int32 → gS → Prop) (px : String → gS → Prop)  (h : wpX0_then K post px u p1 p2) : vx_Met l ⟨"WorkHall", "then", "(II)I"⟩ (gw ⟨"WorkHall", "then", "(II)I"⟩ prog_1_method_4_code 6 (some .int)) ({ frames := 9, cells := 6, slots := 36, locals := 360 } : Room) (va_Pc [.ref (ad 0), .int p1, .int p2] (gB (dC, dI) vwCl (xT ca) xE (wX ad ca K u) sz)) (va_Qi post (gAt (dC, dI) vwCl (xT ca) (wX ad ca K) (va_A (wX ad ca K u) sz)) (va_A (wX ad ca K u) sz)) (gX (dC, dI) vwCl (xT ca) (wX ad ca K) px (va_A (wX ad ca K u) sz)) 6 36 (va_A (wX ad ca K u) sz) := by
  refine vx_ofW (cc := prog_1_method_4_code) (maxL := 6) (ret := (some .int)) (by decide) rfl ?_
  intro p e s m args below meth c s₁ B hml hno hv
  obtain ⟨rfl, hsz, hP, hK, hD0, hE⟩ := hv
  have hx := B.exec
  have hb := B.bytes
  have hr := B.returns
  have hts : ∀ w ∈ gW, w.before _ s = true := fun w h9 => atoms_spec (ws := (gw ⟨"WorkHall", "then", "(II)I"⟩ prog_1_method_4_code 6 (some .int))) B.pre w (List.mem_cons_of_mem _ h9)
  have hown : s.vm.findClass RX0 = some m.cls := findClass_of_methodNamed B.named
  have hlocks := B.notSynchronized
  subst hsz
  have hD := hD0.self (sz := s.heap.size)
  generalize hAe : va_A (wX ad ca K u) s.heap.size = A at hD hE ⊢
  have hA : ∀ q : Nat, s.heap.size ≤ q → A q := fun q h => by rw [← hAe]; exact Or.inr h
  obtain ⟨H, hHe⟩ : ∃ z : Heap, z = s.heap := ⟨_, rfl⟩
  rw [← hHe]
  have hS : va_S A s.heap H [] := by rw [hHe]; exact va_S.rf
  have hP : va_P (dC, dI) vwCl (wX ad ca K u) H := by rw [hHe]; exact hP
  have hl := lv_entry ([.ref (ad 0), .int p1, .int p2]) (n := 6) (Nat.le_of_ble_eq_true rfl)
  rw [lg_entry_eq]
  generalize (lg_sl ([.ref (ad 0), .int p1, .int p2]) ++ List.replicate (6 - (lg_sl ([.ref (ad 0), .int p1, .int p2])).length) Slot.unset).toArray = ls at hl ⊢
  have hl : lv_has ls 6 [(0, .ref (ad 0)), (1, .int p1), (2, .int p2)] := hl
  clear hAe
  refine lv_iload_n hx hb dX0_then_0 rfl (lv_at hl 2 rfl) ?_
  refine lv_iconst (v := 0) hx hb dX0_then_1 (by decide) ?_
  refine lv_bipush (v := 23) hx hb dX0_then_2 (by decide) ?_
  refine gxc_v (w := wX ad ca K) (u := u) (vx_runS (As := [.int p2, .int 0, .int 23]) (rest := []) ⟨hx, hb, hml, hown, hts⟩ (cX0_checkRange l hl9 dC dI ad ca K H.size u p2 0 23 _ _ h) (va_cwS 3 hts (gG_S wd_221 wd_222 wd_46 wd_223) rfl rfl rfl (by decide +kernel) ⟨Nat.le_of_ble_eq_true rfl, Nat.le_of_ble_eq_true rfl⟩) ⟨gB_blind xE_ok, gB_pre xE_ok hP hK hD hE hS hA⟩ rfl rfl hl.1 rfl (lv_room (Nat.le_of_ble_eq_true rfl)) dX0_then_4 ⟨Nat.le_of_ble_eq_true rfl, Nat.le_of_ble_eq_true rfl⟩) hD hS hA (fun E9 ce9 q9 u9 H locs h hP hD hS hce hcv hcl => gx_out hno hlocks h hP hK hD hS hce hcv hcl (Nat.le_of_ble_eq_true rfl) (Nat.le_of_ble_eq_true rfl)) (fun u2 H locs h hP hD hS => ?_)
  refine lv_aload_n hx hb dX0_then_7 rfl (lv_at hl 0 rfl) ?_
  refine lv_iload_n hx hb dX0_then_8 rfl (lv_at hl 1 rfl) ?_
  refine gxc_q (w := wX ad ca K) (u := u2) (vx_runV (As := [.int p1]) (rest := []) ⟨hx, hb, hml, hown, hts⟩ (cX0_known l hl9 dC dI ad ca K H.size u2 p1 _ _ h) (cwV 1 hts (gG_V wd_364 wd_366 wd_1 wd_46 wd_367) rfl rfl rfl (by decide +kernel) ⟨Nat.le_of_ble_eq_true rfl, Nat.le_of_ble_eq_true rfl⟩) ⟨gB_blind xE_ok, va_recv hK hP (ci := 0) (q0 := 0) rfl rfl, gB_pre xE_ok hP hK hD hE hS hA⟩ rfl rfl hl.1 rfl (lv_room (Nat.le_of_ble_eq_true rfl)) dX0_then_9 ⟨Nat.le_of_ble_eq_true rfl, Nat.le_of_ble_eq_true rfl⟩) hD hS hA (fun E9 ce9 q9 u9 H locs h hP hD hS hce hcv hcl => gx_out hno hlocks h hP hK hD hS hce hcv hcl (Nat.le_of_ble_eq_true rfl) (Nat.le_of_ble_eq_true rfl)) (fun r3 u4 H locs h hP hD hS => ?_)
  refine gq_astore_n (r := r3) (lv' := [(3, va_rf r3), (0, .ref (ad 0)), (1, .int p1), (2, .int p2)]) hx hb dX0_then_12 rfl hl (by decide) rfl (fun ls hl => ?_)
  refine lv_aload_n hx hb dX0_then_13 rfl (lv_at hl 1 rfl) ?_
  refine lv_iload_n hx hb dX0_then_14 rfl (lv_at hl 3 rfl) ?_
  refine gxc_q (w := wX ad ca K) (u := u4) (vx_runV (As := [.int p2]) (rest := []) ⟨hx, hb, hml, hown, hts⟩ (cX0_known l hl9 dC dI ad ca K H.size u4 p2 _ _ h) (cwV 1 hts (gG_V wd_364 wd_366 wd_1 wd_46 wd_367) rfl rfl rfl (by decide +kernel) ⟨Nat.le_of_ble_eq_true rfl, Nat.le_of_ble_eq_true rfl⟩) ⟨gB_blind xE_ok, va_recv hK hP (ci := 0) (q0 := 0) rfl rfl, gB_pre xE_ok hP hK hD hE hS hA⟩ rfl rfl hl.1 rfl (lv_room (Nat.le_of_ble_eq_true rfl)) dX0_then_15 ⟨Nat.le_of_ble_eq_true rfl, Nat.le_of_ble_eq_true rfl⟩) hD hS hA (fun E9 ce9 q9 u9 H locs h hP hD hS hce hcv hcl => gx_out hno hlocks h hP hK hD hS hce hcv hcl (Nat.le_of_ble_eq_true rfl) (Nat.le_of_ble_eq_true rfl)) (fun r5 u6 H locs h hP hD hS => ?_)
  refine gq_astore (r := r5) (lv' := [(4, va_rf r5), (3, va_rf r3), (0, .ref (ad 0)), (1, .int p1), (2, .int p2)]) hx hb dX0_then_18 hl (by decide) (by cases r3 <;> rfl) (fun ls hl => ?_)
  refine gq_aload_n (r := r3) hx hb dX0_then_20 rfl (lv_at hl 1 rfl) ?_
  refine gq_aload (r := r5) hx hb dX0_then_21 (lv_at hl 0 rfl) ?_
  refine lv_acmp_ne (rx := r3) (ry := r5) (tgt := 36) hx hb dX0_then_23 (by decide) (fun c7 => ?_) (fun c7 => ?_)
  · have h := h.1 c7
    refine gq_aload_n (r := r3) hx hb dX0_then_36 rfl (lv_at hl 1 rfl) ?_
    obtain ⟨y8, rfl, hy9, h⟩ := h
    obtain ⟨k9, hk9⟩ := xJ_get hy9
    refine va_get (D := (dC, dI)) (ci := 5) (v := .int (sA u6 0 y8)) (C := RX5) (T := TX5) (N := 9) hx hb hts uwX5 hown hK hP k9 hk9 rfl 5 (by decide) (hts _ wd_327) (fun _ h9 => h9) rfl dX0_then_37 ?_
    refine lv_iconst (v := 2) hx hb dX0_then_40 (by decide) ?_
    refine lv_icmp_le (tgt := 54) hx hb dX0_then_41 (by decide) (fun c10 => ?_) (fun c10 => ?_)
    · have h := h.1 c10
      refine lv_aload_n hx hb dX0_then_54 rfl (lv_at hl 1 rfl) ?_
      refine gc_i (w := wX ad ca K) (u := u6) (va_runV (As := []) (rest := []) ⟨hx, hb, hml, hown, hts⟩ (cX5_nextNumber l dC dI ad ca K H.size u6 y8 _ hy9 h) (cwV 0 hts (gG_V wd_484 wd_485 wd_486 wd_58 wd_487) rfl rfl rfl (by decide +kernel) ⟨Nat.le_of_ble_eq_true rfl, Nat.le_of_ble_eq_true rfl⟩) ⟨gB_blind xE_ok, (by obtain ⟨k9, hk9⟩ := xJ_get hy9; exact va_recv hK hP (ci := 5) (q0 := k9) rfl hk9), gB_pre xE_ok hP hK hD hE hS hA⟩ rfl rfl hl.1 rfl (lv_room (Nat.le_of_ble_eq_true rfl)) dX0_then_55 ⟨Nat.le_of_ble_eq_true rfl, Nat.le_of_ble_eq_true rfl⟩) hD hS hA (fun r11 u12 H locs h hP hD hS => ?_)
      refine lv_istore (lv' := [(5, .int r11), (4, va_rf r5), (3, .ref y8), (0, .ref (ad 0)), (1, .int p1), (2, .int p2)]) hx hb dX0_then_58 hl (by decide) (by cases r5 <;> rfl) (fun ls hl => ?_)
      refine lv_aload_n hx hb dX0_then_60 rfl (lv_at hl 2 rfl) ?_
      refine gq_aload (r := r5) hx hb dX0_then_61 (lv_at hl 1 rfl) ?_
      obtain ⟨k9, hk9⟩ := xJ_get hy9
      have e9 := xJ_next (v := r5) hD hy9 hk9
      refine va_put (D := (dC, dI)) (ci := 5) (v := va_rf r5) (ty := tyX5 8) (C := RX5) (T := TX5) (N := 9) hx hb hts uwX5 tyX5 tyX5_ok nmX5 hown hK hP hD hS k9 hk9 rfl 8 (by decide) (hts _ wd_335) (fun _ h9 => h9) rfl (tyX5_ok 8 (by decide)) (by cases r5 <;> rfl) (by cases r5 <;> rfl) (Nat.le_of_ble_eq_true rfl) dX0_then_63 (fun H locs hP hD hS => ?_)
      obtain ⟨u13, eu13⟩ : ∃ z : gS, z = tQ u12 3 y8 r5 := ⟨_, rfl⟩
      have hP : va_P (dC, dI) vwCl (wX ad ca K u13) H := by rw [eu13, ← e9]; exact hP
      have hD : va_D A (wX ad ca K u13) := by rw [eu13, ← e9]; exact hD
      have h := h u13 eu13
      refine lv_iload hx hb dX0_then_66 (lv_at hl 0 rfl) ?_
      refine W.widen (k := 6) (n := 36) (Nat.le_of_ble_eq_true rfl) (Nat.le_of_ble_eq_true rfl) (vx_ret ?_); exact gr_i (w := wX ad ca K) (u := u13) hx hb hr hlocks h hP hK hD hS dX0_then_68
    · have h := h.2 c10
      obtain ⟨sa9, hs9⟩ := xE_text hE 109 "the job is over" (by decide +kernel); exact vx_throwS (names := xSup) hx hb hl9 hown (by decide +kernel) (by decide +kernel) (hts _ wd_295) (hts _ wd_57) hs9 (tw_ise hts (xE_face hE)) tg_ise (xE_U hE) (xE_N hE) hS (hl.1.trans hml.symm) dX0_then_44 dX0_then_47 dX0_then_48 dX0_then_50 dX0_then_53 (fun x hx => (hno x hx).elim) (Nat.le_of_ble_eq_true rfl) (Nat.le_of_ble_eq_true rfl) (Nat.le_of_ble_eq_true rfl) (Nat.le_of_ble_eq_true rfl) hlocks (fun t ha hz hq => gx_thrown h hP hK hD hS ha hz hq) hS.2.2 (Nat.le_of_ble_eq_true rfl) (Nat.le_of_ble_eq_true rfl)
  · have h := h.2 c7
    obtain ⟨sa9, hs9⟩ := xE_text hE 106 "a job can not follow on itself" (by decide +kernel); exact vx_throwS (names := xSup) hx hb hl9 hown (by decide +kernel) (by decide +kernel) (hts _ wd_224) (hts _ wd_56) hs9 (tw_iae hts (xE_face hE)) tg_iae (xE_U hE) (xE_N hE) hS (hl.1.trans hml.symm) dX0_then_26 dX0_then_29 dX0_then_30 dX0_then_32 dX0_then_35 (fun x hx => (hno x hx).elim) (Nat.le_of_ble_eq_true rfl) (Nat.le_of_ble_eq_true rfl) (Nat.le_of_ble_eq_true rfl) (Nat.le_of_ble_eq_true rfl) hlocks (fun t ha hz hq => gx_thrown h hP hK hD hS ha hz hq) hS.2.2 (Nat.le_of_ble_eq_true rfl) (Nat.le_of_ble_eq_true rfl)
end
section
theorem dX0_cancel_0 : decode prog_1_method_6_code 0 = .ok (.aload_n 0, 1) := by decide +kernel
theorem dX0_cancel_1 : decode prog_1_method_6_code 1 = .ok (.iload_n 1, 1) := by decide +kernel
theorem dX0_cancel_2 : decode prog_1_method_6_code 2 = .ok (.invokevirtual 86, 3) := by decide +kernel
theorem dX0_cancel_5 : decode prog_1_method_6_code 5 = .ok (.astore_n 3, 1) := by decide +kernel
theorem dX0_cancel_6 : decode prog_1_method_6_code 6 = .ok (.aload_n 3, 1) := by decide +kernel
theorem dX0_cancel_7 : decode prog_1_method_6_code 7 = .ok (.getfield 90, 3) := by decide +kernel
theorem dX0_cancel_10 : decode prog_1_method_6_code 10 = .ok (.istore 4, 2) := by decide +kernel
theorem dX0_cancel_12 : decode prog_1_method_6_code 12 = .ok (.iload 4, 2) := by decide +kernel
theorem dX0_cancel_14 : decode prog_1_method_6_code 14 = .ok (.iconst 2, 1) := by decide +kernel
theorem dX0_cancel_15 : decode prog_1_method_6_code 15 = .ok (.if_icmp .gt 13, 3) := by decide +kernel
theorem dX0_cancel_18 : decode prog_1_method_6_code 18 = .ok (.iload 4, 2) := by decide +kernel
theorem dX0_cancel_20 : decode prog_1_method_6_code 20 = .ok (.iconst 2, 1) := by decide +kernel
theorem dX0_cancel_21 : decode prog_1_method_6_code 21 = .ok (.if_icmp .ne 17, 3) := by decide +kernel
theorem dX0_cancel_24 : decode prog_1_method_6_code 24 = .ok (.iload_n 2, 1) := by decide +kernel
theorem dX0_cancel_25 : decode prog_1_method_6_code 25 = .ok (.ifCond .ne 13, 3) := by decide +kernel
theorem dX0_cancel_28 : decode prog_1_method_6_code 28 = .ok (.new 99, 3) := by decide +kernel
theorem dX0_cancel_31 : decode prog_1_method_6_code 31 = .ok (.dup, 1) := by decide +kernel
theorem dX0_cancel_32 : decode prog_1_method_6_code 32 = .ok (.ldc 125, 2) := by decide +kernel
theorem dX0_cancel_34 : decode prog_1_method_6_code 34 = .ok (.invokespecial 103, 3) := by decide +kernel
theorem dX0_cancel_37 : decode prog_1_method_6_code 37 = .ok (.athrow, 1) := by decide +kernel
theorem dX0_cancel_38 : decode prog_1_method_6_code 38 = .ok (.aload_n 3, 1) := by decide +kernel
theorem dX0_cancel_39 : decode prog_1_method_6_code 39 = .ok (.iconst 5, 1) := by decide +kernel
theorem dX0_cancel_40 : decode prog_1_method_6_code 40 = .ok (.putfield 90, 3) := by decide +kernel
theorem dX0_cancel_43 : decode prog_1_method_6_code 43 = .ok (.iload 4, 2) := by decide +kernel
theorem dX0_cancel_45 : decode prog_1_method_6_code 45 = .ok (.iconst 1, 1) := by decide +kernel
theorem dX0_cancel_46 : decode prog_1_method_6_code 46 = .ok (.if_icmp .ne 19, 3) := by decide +kernel
theorem dX0_cancel_49 : decode prog_1_method_6_code 49 = .ok (.aload_n 0, 1) := by decide +kernel
theorem dX0_cancel_50 : decode prog_1_method_6_code 50 = .ok (.getfield 25, 3) := by decide +kernel
theorem dX0_cancel_53 : decode prog_1_method_6_code 53 = .ok (.aload_n 0, 1) := by decide +kernel
theorem dX0_cancel_54 : decode prog_1_method_6_code 54 = .ok (.getfield 25, 3) := by decide +kernel
theorem dX0_cancel_57 : decode prog_1_method_6_code 57 = .ok (.aload_n 3, 1) := by decide +kernel
theorem dX0_cancel_58 : decode prog_1_method_6_code 58 = .ok (.invokevirtual 127, 3) := by decide +kernel
theorem dX0_cancel_61 : decode prog_1_method_6_code 61 = .ok (.invokevirtual 131, 3) := by decide +kernel
theorem dX0_cancel_64 : decode prog_1_method_6_code 64 = .ok (.pop, 1) := by decide +kernel
theorem dX0_cancel_65 : decode prog_1_method_6_code 65 = .ok (.iload 4, 2) := by decide +kernel
theorem dX0_cancel_67 : decode prog_1_method_6_code 67 = .ok (.iconst 2, 1) := by decide +kernel
theorem dX0_cancel_68 : decode prog_1_method_6_code 68 = .ok (.if_icmp .ne 22, 3) := by decide +kernel
theorem dX0_cancel_71 : decode prog_1_method_6_code 71 = .ok (.aload_n 0, 1) := by decide +kernel
theorem dX0_cancel_72 : decode prog_1_method_6_code 72 = .ok (.aload_n 0, 1) := by decide +kernel
theorem dX0_cancel_73 : decode prog_1_method_6_code 73 = .ok (.getfield 18, 3) := by decide +kernel
theorem dX0_cancel_76 : decode prog_1_method_6_code 76 = .ok (.aload_n 0, 1) := by decide +kernel
theorem dX0_cancel_77 : decode prog_1_method_6_code 77 = .ok (.getfield 18, 3) := by decide +kernel
theorem dX0_cancel_80 : decode prog_1_method_6_code 80 = .ok (.aload_n 3, 1) := by decide +kernel
theorem dX0_cancel_81 : decode prog_1_method_6_code 81 = .ok (.invokevirtual 134, 3) := by decide +kernel
theorem dX0_cancel_84 : decode prog_1_method_6_code 84 = .ok (.invokevirtual 135, 3) := by decide +kernel
theorem dX0_cancel_87 : decode prog_1_method_6_code 87 = .ok (.invokevirtual 139, 3) := by decide +kernel
theorem dX0_cancel_90 : decode prog_1_method_6_code 90 = .ok (.aload_n 0, 1) := by decide +kernel
theorem dX0_cancel_91 : decode prog_1_method_6_code 91 = .ok (.invokevirtual 122, 3) := by decide +kernel
theorem dX0_cancel_94 : decode prog_1_method_6_code 94 = .ok (.iload 4, 2) := by decide +kernel
theorem dX0_cancel_96 : decode prog_1_method_6_code 96 = .ok (.ireturn, 1) := by decide +kernel
def wpX0_cancel (K : KX) (post : Int32 → gS → Prop) (px : String → gS → Prop) (u : gS) (p1 : Int32) (p2 : Int32) : Prop :=
  wpX0_known K (fun (r1 : Option Nat) (u2 : gS) => ∃ y3 : Nat, r1 = some y3 ∧ y3 ∈ K.2.2.1 ∧ (∀ x5 : Int32, x5 = sA u2 0 y3 → (((2 < x5 → (px "java/lang/UnsupportedOperationException" u2)) ∧ (¬ 2 < x5 → (((¬ x5 = 2 → (∀ u8 : gS, u8 = tA u2 0 y3 5 → (((¬ x5 = 1 → (((¬ x5 = 2 → (wpX0_endIfSettled K (fun (u12 : gS) => post x5 u12) u8)) ∧ (x5 = 2 → (wpX1_placeOf K (fun (r13 : Int32) (u14 : gS) => wpX1_at K (fun (r15 : Option Nat) (u16 : gS) => wpX0_freeWorker K (fun (u18 : gS) => wpX0_endIfSettled K (fun (u20 : gS) => post x5 u20) u18) u16 r15) u14 r13) u8 (some y3)))))) ∧ (x5 = 1 → (wpX2_placeOf K (fun (r21 : Int32) (u22 : gS) => wpX2_removeAt K (fun (r23 : Option Nat) (u24 : gS) => ((¬ x5 = 2 → (wpX0_endIfSettled K (fun (u27 : gS) => post x5 u27) u24)) ∧ (x5 = 2 → (wpX1_placeOf K (fun (r28 : Int32) (u29 : gS) => wpX1_at K (fun (r30 : Option Nat) (u31 : gS) => wpX0_freeWorker K (fun (u33 : gS) => wpX0_endIfSettled K (fun (u35 : gS) => post x5 u35) u33) u31 r30) u29 r28) u24 (some y3))))) u22 r21) u8 (some y3))))))) ∧ (x5 = 2 → (((¬ p2 = 0 → (∀ u37 : gS, u37 = tA u2 0 y3 5 → (((¬ x5 = 1 → (((¬ x5 = 2 → (wpX0_endIfSettled K (fun (u41 : gS) => post x5 u41) u37)) ∧ (x5 = 2 → (wpX1_placeOf K (fun (r42 : Int32) (u43 : gS) => wpX1_at K (fun (r44 : Option Nat) (u45 : gS) => wpX0_freeWorker K (fun (u47 : gS) => wpX0_endIfSettled K (fun (u49 : gS) => post x5 u49) u47) u45 r44) u43 r42) u37 (some y3)))))) ∧ (x5 = 1 → (wpX2_placeOf K (fun (r50 : Int32) (u51 : gS) => wpX2_removeAt K (fun (r52 : Option Nat) (u53 : gS) => ((¬ x5 = 2 → (wpX0_endIfSettled K (fun (u56 : gS) => post x5 u56) u53)) ∧ (x5 = 2 → (wpX1_placeOf K (fun (r57 : Int32) (u58 : gS) => wpX1_at K (fun (r59 : Option Nat) (u60 : gS) => wpX0_freeWorker K (fun (u62 : gS) => wpX0_endIfSettled K (fun (u64 : gS) => post x5 u64) u62) u60 r59) u58 r57) u53 (some y3))))) u51 r50) u37 (some y3))))))) ∧ (p2 = 0 → (px "java/lang/UnsupportedOperationException" u2)))))))))))) px u p1

set_option maxHeartbeats 8000000 in
set_option maxRecDepth 100000 in
theorem cX0_cancel (l : Launch) (hl9 : l.stackTraces = false) (dC : Nat → ClassId) (dI : Nat → Nat → Nat) (ad : Nat → Nat) (ca : Nat → ClassId) (K : KX) (sz : Nat) (u : gS) (p1 : Int32) (p2 : Int32) (post : Int32 → gS → Prop) (px : String → gS → Prop)  (h : wpX0_cancel K post px u p1 p2) : vx_Met l ⟨"WorkHall", "cancel", "(IZ)I"⟩ (gw ⟨"WorkHall", "cancel", "(IZ)I"⟩ prog_1_method_6_code 5 (some .int)) ({ frames := 9, cells := 3, slots := 18, locals := 360 } : Room) (va_Pc [.ref (ad 0), .int p1, .int p2] (gB (dC, dI) vwCl (xT ca) xE (wX ad ca K u) sz)) (va_Qi post (gAt (dC, dI) vwCl (xT ca) (wX ad ca K) (va_A (wX ad ca K u) sz)) (va_A (wX ad ca K u) sz)) (gX (dC, dI) vwCl (xT ca) (wX ad ca K) px (va_A (wX ad ca K u) sz)) 3 18 (va_A (wX ad ca K u) sz) := by
  refine vx_ofW (cc := prog_1_method_6_code) (maxL := 5) (ret := (some .int)) (by decide) rfl ?_
  intro p e s m args below meth c s₁ B hml hno hv
  obtain ⟨rfl, hsz, hP, hK, hD0, hE⟩ := hv
  have hx := B.exec
  have hb := B.bytes
  have hr := B.returns
  have hts : ∀ w ∈ gW, w.before _ s = true := fun w h9 => atoms_spec (ws := (gw ⟨"WorkHall", "cancel", "(IZ)I"⟩ prog_1_method_6_code 5 (some .int))) B.pre w (List.mem_cons_of_mem _ h9)
  have hown : s.vm.findClass RX0 = some m.cls := findClass_of_methodNamed B.named
  have hlocks := B.notSynchronized
  subst hsz
  have hD := hD0.self (sz := s.heap.size)
  generalize hAe : va_A (wX ad ca K u) s.heap.size = A at hD hE ⊢
  have hA : ∀ q : Nat, s.heap.size ≤ q → A q := fun q h => by rw [← hAe]; exact Or.inr h
  obtain ⟨H, hHe⟩ : ∃ z : Heap, z = s.heap := ⟨_, rfl⟩
  rw [← hHe]
  have hS : va_S A s.heap H [] := by rw [hHe]; exact va_S.rf
  have hP : va_P (dC, dI) vwCl (wX ad ca K u) H := by rw [hHe]; exact hP
  have hl := lv_entry ([.ref (ad 0), .int p1, .int p2]) (n := 5) (Nat.le_of_ble_eq_true rfl)
  rw [lg_entry_eq]
  generalize (lg_sl ([.ref (ad 0), .int p1, .int p2]) ++ List.replicate (5 - (lg_sl ([.ref (ad 0), .int p1, .int p2])).length) Slot.unset).toArray = ls at hl ⊢
  have hl : lv_has ls 5 [(0, .ref (ad 0)), (1, .int p1), (2, .int p2)] := hl
  clear hAe
  refine lv_aload_n hx hb dX0_cancel_0 rfl (lv_at hl 0 rfl) ?_
  refine lv_iload_n hx hb dX0_cancel_1 rfl (lv_at hl 1 rfl) ?_
  refine gxc_q (w := wX ad ca K) (u := u) (vx_runV (As := [.int p1]) (rest := []) ⟨hx, hb, hml, hown, hts⟩ (cX0_known l hl9 dC dI ad ca K H.size u p1 _ _ h) (cwV 1 hts (gG_V wd_364 wd_366 wd_1 wd_46 wd_367) rfl rfl rfl (by decide +kernel) ⟨Nat.le_of_ble_eq_true rfl, Nat.le_of_ble_eq_true rfl⟩) ⟨gB_blind xE_ok, va_recv hK hP (ci := 0) (q0 := 0) rfl rfl, gB_pre xE_ok hP hK hD hE hS hA⟩ rfl rfl hl.1 rfl (lv_room (Nat.le_of_ble_eq_true rfl)) dX0_cancel_2 ⟨Nat.le_of_ble_eq_true rfl, Nat.le_of_ble_eq_true rfl⟩) hD hS hA (fun E9 ce9 q9 u9 H locs h hP hD hS hce hcv hcl => gx_out hno hlocks h hP hK hD hS hce hcv hcl (Nat.le_of_ble_eq_true rfl) (Nat.le_of_ble_eq_true rfl)) (fun r1 u2 H locs h hP hD hS => ?_)
  refine gq_astore_n (r := r1) (lv' := [(3, va_rf r1), (0, .ref (ad 0)), (1, .int p1), (2, .int p2)]) hx hb dX0_cancel_5 rfl hl (by decide) rfl (fun ls hl => ?_)
  refine gq_aload_n (r := r1) hx hb dX0_cancel_6 rfl (lv_at hl 0 rfl) ?_
  obtain ⟨y3, rfl, hy4, h⟩ := h
  obtain ⟨k9, hk9⟩ := xJ_get hy4
  refine va_get (D := (dC, dI)) (ci := 5) (v := .int (sA u2 0 y3)) (C := RX5) (T := TX5) (N := 9) hx hb hts uwX5 hown hK hP k9 hk9 rfl 5 (by decide) (hts _ wd_327) (fun _ h9 => h9) rfl dX0_cancel_7 ?_
  refine lv_topi (fun x5 ex5 => ?_)
  have h := h x5 ex5
  refine lv_istore (lv' := [(4, .int x5), (3, .ref y3), (0, .ref (ad 0)), (1, .int p1), (2, .int p2)]) hx hb dX0_cancel_10 hl (by decide) rfl (fun ls hl => ?_)
  refine lv_iload hx hb dX0_cancel_12 (lv_at hl 0 rfl) ?_
  refine lv_iconst (v := 2) hx hb dX0_cancel_14 (by decide) ?_
  refine lv_icmp_gt (tgt := 28) hx hb dX0_cancel_15 (by decide) (fun c6 => ?_) (fun c6 => ?_)
  · have h := h.1 c6
    obtain ⟨sa9, hs9⟩ := xE_text hE 125 "the job can not be cancelled" (by decide +kernel); exact vx_throwS (names := xSup) hx hb hl9 hown (by decide +kernel) (by decide +kernel) (hts _ wd_459) (hts _ wd_60) hs9 (tw_uoe hts (xE_face hE)) tg_uoe (xE_U hE) (xE_N hE) hS (hl.1.trans hml.symm) dX0_cancel_28 dX0_cancel_31 dX0_cancel_32 dX0_cancel_34 dX0_cancel_37 (fun x hx => (hno x hx).elim) (Nat.le_of_ble_eq_true rfl) (Nat.le_of_ble_eq_true rfl) (Nat.le_of_ble_eq_true rfl) (Nat.le_of_ble_eq_true rfl) hlocks (fun t ha hz hq => gx_thrown h hP hK hD hS ha hz hq) hS.2.2 (Nat.le_of_ble_eq_true rfl) (Nat.le_of_ble_eq_true rfl)
  · have h := h.2 c6
    refine lv_iload hx hb dX0_cancel_18 (lv_at hl 0 rfl) ?_
    refine lv_iconst (v := 2) hx hb dX0_cancel_20 (by decide) ?_
    refine lv_icmp_ne (tgt := 38) hx hb dX0_cancel_21 (by decide) (fun c7 => ?_) (fun c7 => ?_)
    · have h := h.1 c7
      refine lv_aload_n hx hb dX0_cancel_38 rfl (lv_at hl 1 rfl) ?_
      refine lv_iconst (v := 5) hx hb dX0_cancel_39 (by decide) ?_
      obtain ⟨k9, hk9⟩ := xJ_get hy4
      have e9 := xJ_state (v := 5) hD hy4 hk9
      refine va_put (D := (dC, dI)) (ci := 5) (v := .int 5) (ty := tyX5 5) (C := RX5) (T := TX5) (N := 9) hx hb hts uwX5 tyX5 tyX5_ok nmX5 hown hK hP hD hS k9 hk9 rfl 5 (by decide) (hts _ wd_327) (fun _ h9 => h9) rfl (tyX5_ok 5 (by decide)) rfl rfl (Nat.le_of_ble_eq_true rfl) dX0_cancel_40 (fun H locs hP hD hS => ?_)
      obtain ⟨u8, eu8⟩ : ∃ z : gS, z = tA u2 0 y3 5 := ⟨_, rfl⟩
      have hP : va_P (dC, dI) vwCl (wX ad ca K u8) H := by rw [eu8, ← e9]; exact hP
      have hD : va_D A (wX ad ca K u8) := by rw [eu8, ← e9]; exact hD
      have h := h u8 eu8
      refine lv_iload hx hb dX0_cancel_43 (lv_at hl 0 rfl) ?_
      refine lv_iconst (v := 1) hx hb dX0_cancel_45 (by decide) ?_
      refine lv_icmp_ne (tgt := 65) hx hb dX0_cancel_46 (by decide) (fun c9 => ?_) (fun c9 => ?_)
      · have h := h.1 c9
        refine lv_iload hx hb dX0_cancel_65 (lv_at hl 0 rfl) ?_
        refine lv_iconst (v := 2) hx hb dX0_cancel_67 (by decide) ?_
        refine lv_icmp_ne (tgt := 90) hx hb dX0_cancel_68 (by decide) (fun c10 => ?_) (fun c10 => ?_)
        · have h := h.1 c10
          refine lv_aload_n hx hb dX0_cancel_90 rfl (lv_at hl 2 rfl) ?_
          refine gc_v (w := wX ad ca K) (u := u8) (va_runV (As := []) (rest := []) ⟨hx, hb, hml, hown, hts⟩ (cX0_endIfSettled l dC dI ad ca K H.size u8 _ h) (cwV 0 hts (gG_V wd_525 wd_527 wd_12 wd_46 wd_528) rfl rfl rfl (by decide +kernel) ⟨Nat.le_of_ble_eq_true rfl, Nat.le_of_ble_eq_true rfl⟩) ⟨gB_blind xE_ok, va_recv hK hP (ci := 0) (q0 := 0) rfl rfl, gB_pre xE_ok hP hK hD hE hS hA⟩ rfl rfl hl.1 rfl (lv_room (Nat.le_of_ble_eq_true rfl)) dX0_cancel_91 ⟨Nat.le_of_ble_eq_true rfl, Nat.le_of_ble_eq_true rfl⟩) hD hS hA (fun u12 H locs h hP hD hS => ?_)
          refine lv_iload hx hb dX0_cancel_94 (lv_at hl 0 rfl) ?_
          refine W.widen (k := 3) (n := 18) (Nat.le_of_ble_eq_true rfl) (Nat.le_of_ble_eq_true rfl) (vx_ret ?_); exact gr_i (w := wX ad ca K) (u := u12) hx hb hr hlocks h hP hK hD hS dX0_cancel_96
        · have h := h.2 c10
          refine lv_aload_n hx hb dX0_cancel_71 rfl (lv_at hl 2 rfl) ?_
          refine lv_aload_n hx hb dX0_cancel_72 rfl (lv_at hl 2 rfl) ?_
          refine va_get (D := (dC, dI)) (ci := 0) (v := .ref (ad 2)) (C := RX0) (T := TX0) (N := 12) hx hb hts uwX0 hown hK hP 0 rfl rfl 5 (by decide) (hts _ wd_177) (fun _ h9 => h9) rfl dX0_cancel_73 ?_
          refine lv_aload_n hx hb dX0_cancel_76 rfl (lv_at hl 2 rfl) ?_
          refine va_get (D := (dC, dI)) (ci := 0) (v := .ref (ad 2)) (C := RX0) (T := TX0) (N := 12) hx hb hts uwX0 hown hK hP 0 rfl rfl 5 (by decide) (hts _ wd_177) (fun _ h9 => h9) rfl dX0_cancel_77 ?_
          refine lv_aload_n hx hb dX0_cancel_80 rfl (lv_at hl 1 rfl) ?_
          refine gc_i (w := wX ad ca K) (u := u8) (va_runV (As := [va_rf (some y3)]) (rest := [.ref (ad 2), .ref (ad 0)]) ⟨hx, hb, hml, hown, hts⟩ (cX1_placeOf l dC dI ad ca K H.size u8 (some y3) _ h) (cwV 1 hts (gG_V wd_545 wd_398 wd_399 wd_47 wd_400) rfl rfl rfl (by decide +kernel) ⟨Nat.le_of_ble_eq_true rfl, Nat.le_of_ble_eq_true rfl⟩) ⟨gB_blind xE_ok, va_recv hK hP (ci := 1) (q0 := 2) rfl rfl, gB_pre xE_ok hP hK hD hE hS hA⟩ rfl rfl hl.1 rfl (lv_room (Nat.le_of_ble_eq_true rfl)) dX0_cancel_81 ⟨Nat.le_of_ble_eq_true rfl, Nat.le_of_ble_eq_true rfl⟩) hD hS hA (fun r13 u14 H locs h hP hD hS => ?_)
          refine gc_q (w := wX ad ca K) (u := u14) (va_runV (As := [.int r13]) (rest := [.ref (ad 0)]) ⟨hx, hb, hml, hown, hts⟩ (cX1_at l dC dI ad ca K H.size u14 r13 _ h) (cwV 1 hts (gG_V wd_503 wd_402 wd_403 wd_47 wd_404) rfl rfl rfl (by decide +kernel) ⟨Nat.le_of_ble_eq_true rfl, Nat.le_of_ble_eq_true rfl⟩) ⟨gB_blind xE_ok, va_recv hK hP (ci := 1) (q0 := 2) rfl rfl, gB_pre xE_ok hP hK hD hE hS hA⟩ rfl rfl hl.1 rfl (lv_room (Nat.le_of_ble_eq_true rfl)) dX0_cancel_84 ⟨Nat.le_of_ble_eq_true rfl, Nat.le_of_ble_eq_true rfl⟩) hD hS hA (fun r15 u16 H locs h hP hD hS => ?_)
          refine gc_v (w := wX ad ca K) (u := u16) (va_runV (As := [va_rf r15]) (rest := []) ⟨hx, hb, hml, hown, hts⟩ (cX0_freeWorker l dC dI ad ca K H.size u16 r15 _ h) (cwV 1 hts (gG_V wd_517 wd_519 wd_11 wd_46 wd_520) rfl rfl rfl (by decide +kernel) ⟨Nat.le_of_ble_eq_true rfl, Nat.le_of_ble_eq_true rfl⟩) ⟨gB_blind xE_ok, va_recv hK hP (ci := 0) (q0 := 0) rfl rfl, gB_pre xE_ok hP hK hD hE hS hA⟩ rfl rfl hl.1 rfl (lv_room (Nat.le_of_ble_eq_true rfl)) dX0_cancel_87 ⟨Nat.le_of_ble_eq_true rfl, Nat.le_of_ble_eq_true rfl⟩) hD hS hA (fun u18 H locs h hP hD hS => ?_)
          refine lv_aload_n hx hb dX0_cancel_90 rfl (lv_at hl 2 rfl) ?_
          refine gc_v (w := wX ad ca K) (u := u18) (va_runV (As := []) (rest := []) ⟨hx, hb, hml, hown, hts⟩ (cX0_endIfSettled l dC dI ad ca K H.size u18 _ h) (cwV 0 hts (gG_V wd_525 wd_527 wd_12 wd_46 wd_528) rfl rfl rfl (by decide +kernel) ⟨Nat.le_of_ble_eq_true rfl, Nat.le_of_ble_eq_true rfl⟩) ⟨gB_blind xE_ok, va_recv hK hP (ci := 0) (q0 := 0) rfl rfl, gB_pre xE_ok hP hK hD hE hS hA⟩ rfl rfl hl.1 rfl (lv_room (Nat.le_of_ble_eq_true rfl)) dX0_cancel_91 ⟨Nat.le_of_ble_eq_true rfl, Nat.le_of_ble_eq_true rfl⟩) hD hS hA (fun u20 H locs h hP hD hS => ?_)
          refine lv_iload hx hb dX0_cancel_94 (lv_at hl 0 rfl) ?_
          refine W.widen (k := 3) (n := 18) (Nat.le_of_ble_eq_true rfl) (Nat.le_of_ble_eq_true rfl) (vx_ret ?_); exact gr_i (w := wX ad ca K) (u := u20) hx hb hr hlocks h hP hK hD hS dX0_cancel_96
      · have h := h.2 c9
        refine lv_aload_n hx hb dX0_cancel_49 rfl (lv_at hl 2 rfl) ?_
        refine va_get (D := (dC, dI)) (ci := 0) (v := .ref (ad 4)) (C := RX0) (T := TX0) (N := 12) hx hb hts uwX0 hown hK hP 0 rfl rfl 6 (by decide) (hts _ wd_178) (fun _ h9 => h9) rfl dX0_cancel_50 ?_
        refine lv_aload_n hx hb dX0_cancel_53 rfl (lv_at hl 2 rfl) ?_
        refine va_get (D := (dC, dI)) (ci := 0) (v := .ref (ad 4)) (C := RX0) (T := TX0) (N := 12) hx hb hts uwX0 hown hK hP 0 rfl rfl 6 (by decide) (hts _ wd_178) (fun _ h9 => h9) rfl dX0_cancel_54 ?_
        refine lv_aload_n hx hb dX0_cancel_57 rfl (lv_at hl 1 rfl) ?_
        refine gc_i (w := wX ad ca K) (u := u8) (va_runV (As := [va_rf (some y3)]) (rest := [.ref (ad 4)]) ⟨hx, hb, hml, hown, hts⟩ (cX2_placeOf l dC dI ad ca K H.size u8 (some y3) _ h) (cwV 1 hts (gG_V wd_541 wd_542 wd_543 wd_49 wd_544) rfl rfl rfl (by decide +kernel) ⟨Nat.le_of_ble_eq_true rfl, Nat.le_of_ble_eq_true rfl⟩) ⟨gB_blind xE_ok, va_recv hK hP (ci := 2) (q0 := 4) rfl rfl, gB_pre xE_ok hP hK hD hE hS hA⟩ rfl rfl hl.1 rfl (lv_room (Nat.le_of_ble_eq_true rfl)) dX0_cancel_58 ⟨Nat.le_of_ble_eq_true rfl, Nat.le_of_ble_eq_true rfl⟩) hD hS hA (fun r21 u22 H locs h hP hD hS => ?_)
        refine gc_q (w := wX ad ca K) (u := u22) (va_runV (As := [.int r21]) (rest := []) ⟨hx, hb, hml, hown, hts⟩ (cX2_removeAt l dC dI ad ca K H.size u22 r21 _ h) (cwV 1 hts (gG_V wd_423 wd_424 wd_425 wd_49 wd_426) rfl rfl rfl (by decide +kernel) ⟨Nat.le_of_ble_eq_true rfl, Nat.le_of_ble_eq_true rfl⟩) ⟨gB_blind xE_ok, va_recv hK hP (ci := 2) (q0 := 4) rfl rfl, gB_pre xE_ok hP hK hD hE hS hA⟩ rfl rfl hl.1 rfl (lv_room (Nat.le_of_ble_eq_true rfl)) dX0_cancel_61 ⟨Nat.le_of_ble_eq_true rfl, Nat.le_of_ble_eq_true rfl⟩) hD hS hA (fun r23 u24 H locs h hP hD hS => ?_)
        refine lv_pop hx hb dX0_cancel_64 (by cases r23 <;> rfl) ?_
        refine lv_iload hx hb dX0_cancel_65 (lv_at hl 0 rfl) ?_
        refine lv_iconst (v := 2) hx hb dX0_cancel_67 (by decide) ?_
        refine lv_icmp_ne (tgt := 90) hx hb dX0_cancel_68 (by decide) (fun c25 => ?_) (fun c25 => ?_)
        · have h := h.1 c25
          refine lv_aload_n hx hb dX0_cancel_90 rfl (lv_at hl 2 rfl) ?_
          refine gc_v (w := wX ad ca K) (u := u24) (va_runV (As := []) (rest := []) ⟨hx, hb, hml, hown, hts⟩ (cX0_endIfSettled l dC dI ad ca K H.size u24 _ h) (cwV 0 hts (gG_V wd_525 wd_527 wd_12 wd_46 wd_528) rfl rfl rfl (by decide +kernel) ⟨Nat.le_of_ble_eq_true rfl, Nat.le_of_ble_eq_true rfl⟩) ⟨gB_blind xE_ok, va_recv hK hP (ci := 0) (q0 := 0) rfl rfl, gB_pre xE_ok hP hK hD hE hS hA⟩ rfl rfl hl.1 rfl (lv_room (Nat.le_of_ble_eq_true rfl)) dX0_cancel_91 ⟨Nat.le_of_ble_eq_true rfl, Nat.le_of_ble_eq_true rfl⟩) hD hS hA (fun u27 H locs h hP hD hS => ?_)
          refine lv_iload hx hb dX0_cancel_94 (lv_at hl 0 rfl) ?_
          refine W.widen (k := 3) (n := 18) (Nat.le_of_ble_eq_true rfl) (Nat.le_of_ble_eq_true rfl) (vx_ret ?_); exact gr_i (w := wX ad ca K) (u := u27) hx hb hr hlocks h hP hK hD hS dX0_cancel_96
        · have h := h.2 c25
          refine lv_aload_n hx hb dX0_cancel_71 rfl (lv_at hl 2 rfl) ?_
          refine lv_aload_n hx hb dX0_cancel_72 rfl (lv_at hl 2 rfl) ?_
          refine va_get (D := (dC, dI)) (ci := 0) (v := .ref (ad 2)) (C := RX0) (T := TX0) (N := 12) hx hb hts uwX0 hown hK hP 0 rfl rfl 5 (by decide) (hts _ wd_177) (fun _ h9 => h9) rfl dX0_cancel_73 ?_
          refine lv_aload_n hx hb dX0_cancel_76 rfl (lv_at hl 2 rfl) ?_
          refine va_get (D := (dC, dI)) (ci := 0) (v := .ref (ad 2)) (C := RX0) (T := TX0) (N := 12) hx hb hts uwX0 hown hK hP 0 rfl rfl 5 (by decide) (hts _ wd_177) (fun _ h9 => h9) rfl dX0_cancel_77 ?_
          refine lv_aload_n hx hb dX0_cancel_80 rfl (lv_at hl 1 rfl) ?_
          refine gc_i (w := wX ad ca K) (u := u24) (va_runV (As := [va_rf (some y3)]) (rest := [.ref (ad 2), .ref (ad 0)]) ⟨hx, hb, hml, hown, hts⟩ (cX1_placeOf l dC dI ad ca K H.size u24 (some y3) _ h) (cwV 1 hts (gG_V wd_545 wd_398 wd_399 wd_47 wd_400) rfl rfl rfl (by decide +kernel) ⟨Nat.le_of_ble_eq_true rfl, Nat.le_of_ble_eq_true rfl⟩) ⟨gB_blind xE_ok, va_recv hK hP (ci := 1) (q0 := 2) rfl rfl, gB_pre xE_ok hP hK hD hE hS hA⟩ rfl rfl hl.1 rfl (lv_room (Nat.le_of_ble_eq_true rfl)) dX0_cancel_81 ⟨Nat.le_of_ble_eq_true rfl, Nat.le_of_ble_eq_true rfl⟩) hD hS hA (fun r28 u29 H locs h hP hD hS => ?_)
          refine gc_q (w := wX ad ca K) (u := u29) (va_runV (As := [.int r28]) (rest := [.ref (ad 0)]) ⟨hx, hb, hml, hown, hts⟩ (cX1_at l dC dI ad ca K H.size u29 r28 _ h) (cwV 1 hts (gG_V wd_503 wd_402 wd_403 wd_47 wd_404) rfl rfl rfl (by decide +kernel) ⟨Nat.le_of_ble_eq_true rfl, Nat.le_of_ble_eq_true rfl⟩) ⟨gB_blind xE_ok, va_recv hK hP (ci := 1) (q0 := 2) rfl rfl, gB_pre xE_ok hP hK hD hE hS hA⟩ rfl rfl hl.1 rfl (lv_room (Nat.le_of_ble_eq_true rfl)) dX0_cancel_84 ⟨Nat.le_of_ble_eq_true rfl, Nat.le_of_ble_eq_true rfl⟩) hD hS hA (fun r30 u31 H locs h hP hD hS => ?_)
          refine gc_v (w := wX ad ca K) (u := u31) (va_runV (As := [va_rf r30]) (rest := []) ⟨hx, hb, hml, hown, hts⟩ (cX0_freeWorker l dC dI ad ca K H.size u31 r30 _ h) (cwV 1 hts (gG_V wd_517 wd_519 wd_11 wd_46 wd_520) rfl rfl rfl (by decide +kernel) ⟨Nat.le_of_ble_eq_true rfl, Nat.le_of_ble_eq_true rfl⟩) ⟨gB_blind xE_ok, va_recv hK hP (ci := 0) (q0 := 0) rfl rfl, gB_pre xE_ok hP hK hD hE hS hA⟩ rfl rfl hl.1 rfl (lv_room (Nat.le_of_ble_eq_true rfl)) dX0_cancel_87 ⟨Nat.le_of_ble_eq_true rfl, Nat.le_of_ble_eq_true rfl⟩) hD hS hA (fun u33 H locs h hP hD hS => ?_)
          refine lv_aload_n hx hb dX0_cancel_90 rfl (lv_at hl 2 rfl) ?_
          refine gc_v (w := wX ad ca K) (u := u33) (va_runV (As := []) (rest := []) ⟨hx, hb, hml, hown, hts⟩ (cX0_endIfSettled l dC dI ad ca K H.size u33 _ h) (cwV 0 hts (gG_V wd_525 wd_527 wd_12 wd_46 wd_528) rfl rfl rfl (by decide +kernel) ⟨Nat.le_of_ble_eq_true rfl, Nat.le_of_ble_eq_true rfl⟩) ⟨gB_blind xE_ok, va_recv hK hP (ci := 0) (q0 := 0) rfl rfl, gB_pre xE_ok hP hK hD hE hS hA⟩ rfl rfl hl.1 rfl (lv_room (Nat.le_of_ble_eq_true rfl)) dX0_cancel_91 ⟨Nat.le_of_ble_eq_true rfl, Nat.le_of_ble_eq_true rfl⟩) hD hS hA (fun u35 H locs h hP hD hS => ?_)
          refine lv_iload hx hb dX0_cancel_94 (lv_at hl 0 rfl) ?_
          refine W.widen (k := 3) (n := 18) (Nat.le_of_ble_eq_true rfl) (Nat.le_of_ble_eq_true rfl) (vx_ret ?_); exact gr_i (w := wX ad ca K) (u := u35) hx hb hr hlocks h hP hK hD hS dX0_cancel_96
    · have h := h.2 c7
      refine lv_iload_n hx hb dX0_cancel_24 rfl (lv_at hl 4 rfl) ?_
      refine lv_if_ne (tgt := 38) hx hb dX0_cancel_25 (by decide) (fun c36 => ?_) (fun c36 => ?_)
      · have h := h.1 c36
        refine lv_aload_n hx hb dX0_cancel_38 rfl (lv_at hl 1 rfl) ?_
        refine lv_iconst (v := 5) hx hb dX0_cancel_39 (by decide) ?_
        obtain ⟨k9, hk9⟩ := xJ_get hy4
        have e9 := xJ_state (v := 5) hD hy4 hk9
        refine va_put (D := (dC, dI)) (ci := 5) (v := .int 5) (ty := tyX5 5) (C := RX5) (T := TX5) (N := 9) hx hb hts uwX5 tyX5 tyX5_ok nmX5 hown hK hP hD hS k9 hk9 rfl 5 (by decide) (hts _ wd_327) (fun _ h9 => h9) rfl (tyX5_ok 5 (by decide)) rfl rfl (Nat.le_of_ble_eq_true rfl) dX0_cancel_40 (fun H locs hP hD hS => ?_)
        obtain ⟨u37, eu37⟩ : ∃ z : gS, z = tA u2 0 y3 5 := ⟨_, rfl⟩
        have hP : va_P (dC, dI) vwCl (wX ad ca K u37) H := by rw [eu37, ← e9]; exact hP
        have hD : va_D A (wX ad ca K u37) := by rw [eu37, ← e9]; exact hD
        have h := h u37 eu37
        refine lv_iload hx hb dX0_cancel_43 (lv_at hl 0 rfl) ?_
        refine lv_iconst (v := 1) hx hb dX0_cancel_45 (by decide) ?_
        refine lv_icmp_ne (tgt := 65) hx hb dX0_cancel_46 (by decide) (fun c38 => ?_) (fun c38 => ?_)
        · have h := h.1 c38
          refine lv_iload hx hb dX0_cancel_65 (lv_at hl 0 rfl) ?_
          refine lv_iconst (v := 2) hx hb dX0_cancel_67 (by decide) ?_
          refine lv_icmp_ne (tgt := 90) hx hb dX0_cancel_68 (by decide) (fun c39 => ?_) (fun c39 => ?_)
          · have h := h.1 c39
            refine lv_aload_n hx hb dX0_cancel_90 rfl (lv_at hl 2 rfl) ?_
            refine gc_v (w := wX ad ca K) (u := u37) (va_runV (As := []) (rest := []) ⟨hx, hb, hml, hown, hts⟩ (cX0_endIfSettled l dC dI ad ca K H.size u37 _ h) (cwV 0 hts (gG_V wd_525 wd_527 wd_12 wd_46 wd_528) rfl rfl rfl (by decide +kernel) ⟨Nat.le_of_ble_eq_true rfl, Nat.le_of_ble_eq_true rfl⟩) ⟨gB_blind xE_ok, va_recv hK hP (ci := 0) (q0 := 0) rfl rfl, gB_pre xE_ok hP hK hD hE hS hA⟩ rfl rfl hl.1 rfl (lv_room (Nat.le_of_ble_eq_true rfl)) dX0_cancel_91 ⟨Nat.le_of_ble_eq_true rfl, Nat.le_of_ble_eq_true rfl⟩) hD hS hA (fun u41 H locs h hP hD hS => ?_)
            refine lv_iload hx hb dX0_cancel_94 (lv_at hl 0 rfl) ?_
            refine W.widen (k := 3) (n := 18) (Nat.le_of_ble_eq_true rfl) (Nat.le_of_ble_eq_true rfl) (vx_ret ?_); exact gr_i (w := wX ad ca K) (u := u41) hx hb hr hlocks h hP hK hD hS dX0_cancel_96
          · have h := h.2 c39
            refine lv_aload_n hx hb dX0_cancel_71 rfl (lv_at hl 2 rfl) ?_
            refine lv_aload_n hx hb dX0_cancel_72 rfl (lv_at hl 2 rfl) ?_
            refine va_get (D := (dC, dI)) (ci := 0) (v := .ref (ad 2)) (C := RX0) (T := TX0) (N := 12) hx hb hts uwX0 hown hK hP 0 rfl rfl 5 (by decide) (hts _ wd_177) (fun _ h9 => h9) rfl dX0_cancel_73 ?_
            refine lv_aload_n hx hb dX0_cancel_76 rfl (lv_at hl 2 rfl) ?_
            refine va_get (D := (dC, dI)) (ci := 0) (v := .ref (ad 2)) (C := RX0) (T := TX0) (N := 12) hx hb hts uwX0 hown hK hP 0 rfl rfl 5 (by decide) (hts _ wd_177) (fun _ h9 => h9) rfl dX0_cancel_77 ?_
            refine lv_aload_n hx hb dX0_cancel_80 rfl (lv_at hl 1 rfl) ?_
            refine gc_i (w := wX ad ca K) (u := u37) (va_runV (As := [va_rf (some y3)]) (rest := [.ref (ad 2), .ref (ad 0)]) ⟨hx, hb, hml, hown, hts⟩ (cX1_placeOf l dC dI ad ca K H.size u37 (some y3) _ h) (cwV 1 hts (gG_V wd_545 wd_398 wd_399 wd_47 wd_400) rfl rfl rfl (by decide +kernel) ⟨Nat.le_of_ble_eq_true rfl, Nat.le_of_ble_eq_true rfl⟩) ⟨gB_blind xE_ok, va_recv hK hP (ci := 1) (q0 := 2) rfl rfl, gB_pre xE_ok hP hK hD hE hS hA⟩ rfl rfl hl.1 rfl (lv_room (Nat.le_of_ble_eq_true rfl)) dX0_cancel_81 ⟨Nat.le_of_ble_eq_true rfl, Nat.le_of_ble_eq_true rfl⟩) hD hS hA (fun r42 u43 H locs h hP hD hS => ?_)
            refine gc_q (w := wX ad ca K) (u := u43) (va_runV (As := [.int r42]) (rest := [.ref (ad 0)]) ⟨hx, hb, hml, hown, hts⟩ (cX1_at l dC dI ad ca K H.size u43 r42 _ h) (cwV 1 hts (gG_V wd_503 wd_402 wd_403 wd_47 wd_404) rfl rfl rfl (by decide +kernel) ⟨Nat.le_of_ble_eq_true rfl, Nat.le_of_ble_eq_true rfl⟩) ⟨gB_blind xE_ok, va_recv hK hP (ci := 1) (q0 := 2) rfl rfl, gB_pre xE_ok hP hK hD hE hS hA⟩ rfl rfl hl.1 rfl (lv_room (Nat.le_of_ble_eq_true rfl)) dX0_cancel_84 ⟨Nat.le_of_ble_eq_true rfl, Nat.le_of_ble_eq_true rfl⟩) hD hS hA (fun r44 u45 H locs h hP hD hS => ?_)
            refine gc_v (w := wX ad ca K) (u := u45) (va_runV (As := [va_rf r44]) (rest := []) ⟨hx, hb, hml, hown, hts⟩ (cX0_freeWorker l dC dI ad ca K H.size u45 r44 _ h) (cwV 1 hts (gG_V wd_517 wd_519 wd_11 wd_46 wd_520) rfl rfl rfl (by decide +kernel) ⟨Nat.le_of_ble_eq_true rfl, Nat.le_of_ble_eq_true rfl⟩) ⟨gB_blind xE_ok, va_recv hK hP (ci := 0) (q0 := 0) rfl rfl, gB_pre xE_ok hP hK hD hE hS hA⟩ rfl rfl hl.1 rfl (lv_room (Nat.le_of_ble_eq_true rfl)) dX0_cancel_87 ⟨Nat.le_of_ble_eq_true rfl, Nat.le_of_ble_eq_true rfl⟩) hD hS hA (fun u47 H locs h hP hD hS => ?_)
            refine lv_aload_n hx hb dX0_cancel_90 rfl (lv_at hl 2 rfl) ?_
            refine gc_v (w := wX ad ca K) (u := u47) (va_runV (As := []) (rest := []) ⟨hx, hb, hml, hown, hts⟩ (cX0_endIfSettled l dC dI ad ca K H.size u47 _ h) (cwV 0 hts (gG_V wd_525 wd_527 wd_12 wd_46 wd_528) rfl rfl rfl (by decide +kernel) ⟨Nat.le_of_ble_eq_true rfl, Nat.le_of_ble_eq_true rfl⟩) ⟨gB_blind xE_ok, va_recv hK hP (ci := 0) (q0 := 0) rfl rfl, gB_pre xE_ok hP hK hD hE hS hA⟩ rfl rfl hl.1 rfl (lv_room (Nat.le_of_ble_eq_true rfl)) dX0_cancel_91 ⟨Nat.le_of_ble_eq_true rfl, Nat.le_of_ble_eq_true rfl⟩) hD hS hA (fun u49 H locs h hP hD hS => ?_)
            refine lv_iload hx hb dX0_cancel_94 (lv_at hl 0 rfl) ?_
            refine W.widen (k := 3) (n := 18) (Nat.le_of_ble_eq_true rfl) (Nat.le_of_ble_eq_true rfl) (vx_ret ?_); exact gr_i (w := wX ad ca K) (u := u49) hx hb hr hlocks h hP hK hD hS dX0_cancel_96
        · have h := h.2 c38
          refine lv_aload_n hx hb dX0_cancel_49 rfl (lv_at hl 2 rfl) ?_
          refine va_get (D := (dC, dI)) (ci := 0) (v := .ref (ad 4)) (C := RX0) (T := TX0) (N := 12) hx hb hts uwX0 hown hK hP 0 rfl rfl 6 (by decide) (hts _ wd_178) (fun _ h9 => h9) rfl dX0_cancel_50 ?_
          refine lv_aload_n hx hb dX0_cancel_53 rfl (lv_at hl 2 rfl) ?_
          refine va_get (D := (dC, dI)) (ci := 0) (v := .ref (ad 4)) (C := RX0) (T := TX0) (N := 12) hx hb hts uwX0 hown hK hP 0 rfl rfl 6 (by decide) (hts _ wd_178) (fun _ h9 => h9) rfl dX0_cancel_54 ?_
          refine lv_aload_n hx hb dX0_cancel_57 rfl (lv_at hl 1 rfl) ?_
          refine gc_i (w := wX ad ca K) (u := u37) (va_runV (As := [va_rf (some y3)]) (rest := [.ref (ad 4)]) ⟨hx, hb, hml, hown, hts⟩ (cX2_placeOf l dC dI ad ca K H.size u37 (some y3) _ h) (cwV 1 hts (gG_V wd_541 wd_542 wd_543 wd_49 wd_544) rfl rfl rfl (by decide +kernel) ⟨Nat.le_of_ble_eq_true rfl, Nat.le_of_ble_eq_true rfl⟩) ⟨gB_blind xE_ok, va_recv hK hP (ci := 2) (q0 := 4) rfl rfl, gB_pre xE_ok hP hK hD hE hS hA⟩ rfl rfl hl.1 rfl (lv_room (Nat.le_of_ble_eq_true rfl)) dX0_cancel_58 ⟨Nat.le_of_ble_eq_true rfl, Nat.le_of_ble_eq_true rfl⟩) hD hS hA (fun r50 u51 H locs h hP hD hS => ?_)
          refine gc_q (w := wX ad ca K) (u := u51) (va_runV (As := [.int r50]) (rest := []) ⟨hx, hb, hml, hown, hts⟩ (cX2_removeAt l dC dI ad ca K H.size u51 r50 _ h) (cwV 1 hts (gG_V wd_423 wd_424 wd_425 wd_49 wd_426) rfl rfl rfl (by decide +kernel) ⟨Nat.le_of_ble_eq_true rfl, Nat.le_of_ble_eq_true rfl⟩) ⟨gB_blind xE_ok, va_recv hK hP (ci := 2) (q0 := 4) rfl rfl, gB_pre xE_ok hP hK hD hE hS hA⟩ rfl rfl hl.1 rfl (lv_room (Nat.le_of_ble_eq_true rfl)) dX0_cancel_61 ⟨Nat.le_of_ble_eq_true rfl, Nat.le_of_ble_eq_true rfl⟩) hD hS hA (fun r52 u53 H locs h hP hD hS => ?_)
          refine lv_pop hx hb dX0_cancel_64 (by cases r52 <;> rfl) ?_
          refine lv_iload hx hb dX0_cancel_65 (lv_at hl 0 rfl) ?_
          refine lv_iconst (v := 2) hx hb dX0_cancel_67 (by decide) ?_
          refine lv_icmp_ne (tgt := 90) hx hb dX0_cancel_68 (by decide) (fun c54 => ?_) (fun c54 => ?_)
          · have h := h.1 c54
            refine lv_aload_n hx hb dX0_cancel_90 rfl (lv_at hl 2 rfl) ?_
            refine gc_v (w := wX ad ca K) (u := u53) (va_runV (As := []) (rest := []) ⟨hx, hb, hml, hown, hts⟩ (cX0_endIfSettled l dC dI ad ca K H.size u53 _ h) (cwV 0 hts (gG_V wd_525 wd_527 wd_12 wd_46 wd_528) rfl rfl rfl (by decide +kernel) ⟨Nat.le_of_ble_eq_true rfl, Nat.le_of_ble_eq_true rfl⟩) ⟨gB_blind xE_ok, va_recv hK hP (ci := 0) (q0 := 0) rfl rfl, gB_pre xE_ok hP hK hD hE hS hA⟩ rfl rfl hl.1 rfl (lv_room (Nat.le_of_ble_eq_true rfl)) dX0_cancel_91 ⟨Nat.le_of_ble_eq_true rfl, Nat.le_of_ble_eq_true rfl⟩) hD hS hA (fun u56 H locs h hP hD hS => ?_)
            refine lv_iload hx hb dX0_cancel_94 (lv_at hl 0 rfl) ?_
            refine W.widen (k := 3) (n := 18) (Nat.le_of_ble_eq_true rfl) (Nat.le_of_ble_eq_true rfl) (vx_ret ?_); exact gr_i (w := wX ad ca K) (u := u56) hx hb hr hlocks h hP hK hD hS dX0_cancel_96
          · have h := h.2 c54
            refine lv_aload_n hx hb dX0_cancel_71 rfl (lv_at hl 2 rfl) ?_
            refine lv_aload_n hx hb dX0_cancel_72 rfl (lv_at hl 2 rfl) ?_
            refine va_get (D := (dC, dI)) (ci := 0) (v := .ref (ad 2)) (C := RX0) (T := TX0) (N := 12) hx hb hts uwX0 hown hK hP 0 rfl rfl 5 (by decide) (hts _ wd_177) (fun _ h9 => h9) rfl dX0_cancel_73 ?_
            refine lv_aload_n hx hb dX0_cancel_76 rfl (lv_at hl 2 rfl) ?_
            refine va_get (D := (dC, dI)) (ci := 0) (v := .ref (ad 2)) (C := RX0) (T := TX0) (N := 12) hx hb hts uwX0 hown hK hP 0 rfl rfl 5 (by decide) (hts _ wd_177) (fun _ h9 => h9) rfl dX0_cancel_77 ?_
            refine lv_aload_n hx hb dX0_cancel_80 rfl (lv_at hl 1 rfl) ?_
            refine gc_i (w := wX ad ca K) (u := u53) (va_runV (As := [va_rf (some y3)]) (rest := [.ref (ad 2), .ref (ad 0)]) ⟨hx, hb, hml, hown, hts⟩ (cX1_placeOf l dC dI ad ca K H.size u53 (some y3) _ h) (cwV 1 hts (gG_V wd_545 wd_398 wd_399 wd_47 wd_400) rfl rfl rfl (by decide +kernel) ⟨Nat.le_of_ble_eq_true rfl, Nat.le_of_ble_eq_true rfl⟩) ⟨gB_blind xE_ok, va_recv hK hP (ci := 1) (q0 := 2) rfl rfl, gB_pre xE_ok hP hK hD hE hS hA⟩ rfl rfl hl.1 rfl (lv_room (Nat.le_of_ble_eq_true rfl)) dX0_cancel_81 ⟨Nat.le_of_ble_eq_true rfl, Nat.le_of_ble_eq_true rfl⟩) hD hS hA (fun r57 u58 H locs h hP hD hS => ?_)
            refine gc_q (w := wX ad ca K) (u := u58) (va_runV (As := [.int r57]) (rest := [.ref (ad 0)]) ⟨hx, hb, hml, hown, hts⟩ (cX1_at l dC dI ad ca K H.size u58 r57 _ h) (cwV 1 hts (gG_V wd_503 wd_402 wd_403 wd_47 wd_404) rfl rfl rfl (by decide +kernel) ⟨Nat.le_of_ble_eq_true rfl, Nat.le_of_ble_eq_true rfl⟩) ⟨gB_blind xE_ok, va_recv hK hP (ci := 1) (q0 := 2) rfl rfl, gB_pre xE_ok hP hK hD hE hS hA⟩ rfl rfl hl.1 rfl (lv_room (Nat.le_of_ble_eq_true rfl)) dX0_cancel_84 ⟨Nat.le_of_ble_eq_true rfl, Nat.le_of_ble_eq_true rfl⟩) hD hS hA (fun r59 u60 H locs h hP hD hS => ?_)
            refine gc_v (w := wX ad ca K) (u := u60) (va_runV (As := [va_rf r59]) (rest := []) ⟨hx, hb, hml, hown, hts⟩ (cX0_freeWorker l dC dI ad ca K H.size u60 r59 _ h) (cwV 1 hts (gG_V wd_517 wd_519 wd_11 wd_46 wd_520) rfl rfl rfl (by decide +kernel) ⟨Nat.le_of_ble_eq_true rfl, Nat.le_of_ble_eq_true rfl⟩) ⟨gB_blind xE_ok, va_recv hK hP (ci := 0) (q0 := 0) rfl rfl, gB_pre xE_ok hP hK hD hE hS hA⟩ rfl rfl hl.1 rfl (lv_room (Nat.le_of_ble_eq_true rfl)) dX0_cancel_87 ⟨Nat.le_of_ble_eq_true rfl, Nat.le_of_ble_eq_true rfl⟩) hD hS hA (fun u62 H locs h hP hD hS => ?_)
            refine lv_aload_n hx hb dX0_cancel_90 rfl (lv_at hl 2 rfl) ?_
            refine gc_v (w := wX ad ca K) (u := u62) (va_runV (As := []) (rest := []) ⟨hx, hb, hml, hown, hts⟩ (cX0_endIfSettled l dC dI ad ca K H.size u62 _ h) (cwV 0 hts (gG_V wd_525 wd_527 wd_12 wd_46 wd_528) rfl rfl rfl (by decide +kernel) ⟨Nat.le_of_ble_eq_true rfl, Nat.le_of_ble_eq_true rfl⟩) ⟨gB_blind xE_ok, va_recv hK hP (ci := 0) (q0 := 0) rfl rfl, gB_pre xE_ok hP hK hD hE hS hA⟩ rfl rfl hl.1 rfl (lv_room (Nat.le_of_ble_eq_true rfl)) dX0_cancel_91 ⟨Nat.le_of_ble_eq_true rfl, Nat.le_of_ble_eq_true rfl⟩) hD hS hA (fun u64 H locs h hP hD hS => ?_)
            refine lv_iload hx hb dX0_cancel_94 (lv_at hl 0 rfl) ?_
            refine W.widen (k := 3) (n := 18) (Nat.le_of_ble_eq_true rfl) (Nat.le_of_ble_eq_true rfl) (vx_ret ?_); exact gr_i (w := wX ad ca K) (u := u64) hx hb hr hlocks h hP hK hD hS dX0_cancel_96
      · have h := h.2 c36
        obtain ⟨sa9, hs9⟩ := xE_text hE 125 "the job can not be cancelled" (by decide +kernel); exact vx_throwS (names := xSup) hx hb hl9 hown (by decide +kernel) (by decide +kernel) (hts _ wd_459) (hts _ wd_60) hs9 (tw_uoe hts (xE_face hE)) tg_uoe (xE_U hE) (xE_N hE) hS (hl.1.trans hml.symm) dX0_cancel_28 dX0_cancel_31 dX0_cancel_32 dX0_cancel_34 dX0_cancel_37 (fun x hx => (hno x hx).elim) (Nat.le_of_ble_eq_true rfl) (Nat.le_of_ble_eq_true rfl) (Nat.le_of_ble_eq_true rfl) (Nat.le_of_ble_eq_true rfl) hlocks (fun t ha hz hq => gx_thrown h hP hK hD hS ha hz hq) hS.2.2 (Nat.le_of_ble_eq_true rfl) (Nat.le_of_ble_eq_true rfl)

theorem dX0_get_0 : decode prog_1_method_7_code 0 = .ok (.aload_n 0, 1) := by decide +kernel
theorem dX0_get_1 : decode prog_1_method_7_code 1 = .ok (.iload_n 1, 1) := by decide +kernel
theorem dX0_get_2 : decode prog_1_method_7_code 2 = .ok (.invokevirtual 86, 3) := by decide +kernel
theorem dX0_get_5 : decode prog_1_method_7_code 5 = .ok (.astore_n 2, 1) := by decide +kernel
theorem dX0_get_6 : decode prog_1_method_7_code 6 = .ok (.aload_n 2, 1) := by decide +kernel
theorem dX0_get_7 : decode prog_1_method_7_code 7 = .ok (.getfield 90, 3) := by decide +kernel
theorem dX0_get_10 : decode prog_1_method_7_code 10 = .ok (.iconst 3, 1) := by decide +kernel
theorem dX0_get_11 : decode prog_1_method_7_code 11 = .ok (.if_icmp .ne 8, 3) := by decide +kernel
theorem dX0_get_14 : decode prog_1_method_7_code 14 = .ok (.aload_n 2, 1) := by decide +kernel
theorem dX0_get_15 : decode prog_1_method_7_code 15 = .ok (.getfield 143, 3) := by decide +kernel
theorem dX0_get_18 : decode prog_1_method_7_code 18 = .ok (.ireturn, 1) := by decide +kernel
theorem dX0_get_19 : decode prog_1_method_7_code 19 = .ok (.aload_n 2, 1) := by decide +kernel
theorem dX0_get_20 : decode prog_1_method_7_code 20 = .ok (.getfield 90, 3) := by decide +kernel
theorem dX0_get_23 : decode prog_1_method_7_code 23 = .ok (.iconst 4, 1) := by decide +kernel
theorem dX0_get_24 : decode prog_1_method_7_code 24 = .ok (.if_icmp .eq 13, 3) := by decide +kernel
theorem dX0_get_27 : decode prog_1_method_7_code 27 = .ok (.new 146, 3) := by decide +kernel
theorem dX0_get_30 : decode prog_1_method_7_code 30 = .ok (.dup, 1) := by decide +kernel
theorem dX0_get_31 : decode prog_1_method_7_code 31 = .ok (.ldc 148, 2) := by decide +kernel
theorem dX0_get_33 : decode prog_1_method_7_code 33 = .ok (.invokespecial 150, 3) := by decide +kernel
theorem dX0_get_36 : decode prog_1_method_7_code 36 = .ok (.athrow, 1) := by decide +kernel
theorem dX0_get_37 : decode prog_1_method_7_code 37 = .ok (.aload_n 2, 1) := by decide +kernel
theorem dX0_get_38 : decode prog_1_method_7_code 38 = .ok (.getfield 151, 3) := by decide +kernel
theorem dX0_get_41 : decode prog_1_method_7_code 41 = .ok (.tableswitch 61 1 4 #[31, 41, 61, 51], 31) := by decide +kernel
theorem dX0_get_72 : decode prog_1_method_7_code 72 = .ok (.new 154, 3) := by decide +kernel
theorem dX0_get_75 : decode prog_1_method_7_code 75 = .ok (.dup, 1) := by decide +kernel
theorem dX0_get_76 : decode prog_1_method_7_code 76 = .ok (.ldc 156, 2) := by decide +kernel
theorem dX0_get_78 : decode prog_1_method_7_code 78 = .ok (.invokespecial 158, 3) := by decide +kernel
theorem dX0_get_81 : decode prog_1_method_7_code 81 = .ok (.athrow, 1) := by decide +kernel
theorem dX0_get_82 : decode prog_1_method_7_code 82 = .ok (.new 159, 3) := by decide +kernel
theorem dX0_get_85 : decode prog_1_method_7_code 85 = .ok (.dup, 1) := by decide +kernel
theorem dX0_get_86 : decode prog_1_method_7_code 86 = .ok (.ldc 161, 2) := by decide +kernel
theorem dX0_get_88 : decode prog_1_method_7_code 88 = .ok (.invokespecial 163, 3) := by decide +kernel
theorem dX0_get_91 : decode prog_1_method_7_code 91 = .ok (.athrow, 1) := by decide +kernel
theorem dX0_get_92 : decode prog_1_method_7_code 92 = .ok (.new 99, 3) := by decide +kernel
theorem dX0_get_95 : decode prog_1_method_7_code 95 = .ok (.dup, 1) := by decide +kernel
theorem dX0_get_96 : decode prog_1_method_7_code 96 = .ok (.ldc 164, 2) := by decide +kernel
theorem dX0_get_98 : decode prog_1_method_7_code 98 = .ok (.invokespecial 103, 3) := by decide +kernel
theorem dX0_get_101 : decode prog_1_method_7_code 101 = .ok (.athrow, 1) := by decide +kernel
theorem dX0_get_102 : decode prog_1_method_7_code 102 = .ok (.new 76, 3) := by decide +kernel
theorem dX0_get_105 : decode prog_1_method_7_code 105 = .ok (.dup, 1) := by decide +kernel
theorem dX0_get_106 : decode prog_1_method_7_code 106 = .ok (.ldc 166, 2) := by decide +kernel
theorem dX0_get_108 : decode prog_1_method_7_code 108 = .ok (.invokespecial 80, 3) := by decide +kernel
theorem dX0_get_111 : decode prog_1_method_7_code 111 = .ok (.athrow, 1) := by decide +kernel
def wpX0_get (K : KX) (post : Int32 → gS → Prop) (px : String → gS → Prop) (u : gS) (p1 : Int32) : Prop :=
  wpX0_known K (fun (r1 : Option Nat) (u2 : gS) => ∃ y3 : Nat, r1 = some y3 ∧ y3 ∈ K.2.2.1 ∧ (((¬ (sA u2 0 y3) = 3 → ((((sA u2 0 y3) = 4 → ((((sA u2 2 y3) = 1 → (px "java/lang/ArithmeticException" u2)) ∧ (¬ (sA u2 2 y3) = 1 → ((((sA u2 2 y3) = 2 → (px "java/lang/IndexOutOfBoundsException" u2)) ∧ (¬ (sA u2 2 y3) = 2 → ((((sA u2 2 y3) = 3 → (px "java/lang/IllegalStateException" u2)) ∧ (¬ (sA u2 2 y3) = 3 → ((((sA u2 2 y3) = 4 → (px "java/lang/UnsupportedOperationException" u2)) ∧ (¬ (sA u2 2 y3) = 4 → (px "java/lang/IllegalStateException" u2)))))))))))))) ∧ (¬ (sA u2 0 y3) = 4 → (px "java/util/NoSuchElementException" u2))))) ∧ ((sA u2 0 y3) = 3 → (post (sA u2 1 y3) u2))))) px u p1

set_option maxHeartbeats 8000000 in
set_option maxRecDepth 100000 in
theorem cX0_get (l : Launch) (hl9 : l.stackTraces = false) (dC : Nat → ClassId) (dI : Nat → Nat → Nat) (ad : Nat → Nat) (ca : Nat → ClassId) (K : KX) (sz : Nat) (u : gS) (p1 : Int32) (post : Int32 → gS → Prop) (px : String → gS → Prop)  (h : wpX0_get K post px u p1) : vx_Met l ⟨"WorkHall", "get", "(I)I"⟩ (gw ⟨"WorkHall", "get", "(I)I"⟩ prog_1_method_7_code 3 (some .int)) ({ frames := 9, cells := 3, slots := 18, locals := 360 } : Room) (va_Pc [.ref (ad 0), .int p1] (gB (dC, dI) vwCl (xT ca) xE (wX ad ca K u) sz)) (va_Qi post (gAt (dC, dI) vwCl (xT ca) (wX ad ca K) (va_A (wX ad ca K u) sz)) (va_A (wX ad ca K u) sz)) (gX (dC, dI) vwCl (xT ca) (wX ad ca K) px (va_A (wX ad ca K u) sz)) 3 18 (va_A (wX ad ca K u) sz) := by
  refine vx_ofW (cc := prog_1_method_7_code) (maxL := 3) (ret := (some .int)) (by decide) rfl ?_
  intro p e s m args below meth c s₁ B hml hno hv
  obtain ⟨rfl, hsz, hP, hK, hD0, hE⟩ := hv
  have hx := B.exec
  have hb := B.bytes
  have hr := B.returns
  have hts : ∀ w ∈ gW, w.before _ s = true := fun w h9 => atoms_spec (ws := (gw ⟨"WorkHall", "get", "(I)I"⟩ prog_1_method_7_code 3 (some .int))) B.pre w (List.mem_cons_of_mem _ h9)
  have hown : s.vm.findClass RX0 = some m.cls := findClass_of_methodNamed B.named
  have hlocks := B.notSynchronized
  subst hsz
  have hD := hD0.self (sz := s.heap.size)
  generalize hAe : va_A (wX ad ca K u) s.heap.size = A at hD hE ⊢
  have hA : ∀ q : Nat, s.heap.size ≤ q → A q := fun q h => by rw [← hAe]; exact Or.inr h
  obtain ⟨H, hHe⟩ : ∃ z : Heap, z = s.heap := ⟨_, rfl⟩
  rw [← hHe]
  have hS : va_S A s.heap H [] := by rw [hHe]; exact va_S.rf
  have hP : va_P (dC, dI) vwCl (wX ad ca K u) H := by rw [hHe]; exact hP
  have hl := lv_entry ([.ref (ad 0), .int p1]) (n := 3) (Nat.le_of_ble_eq_true rfl)
  rw [lg_entry_eq]
  generalize (lg_sl ([.ref (ad 0), .int p1]) ++ List.replicate (3 - (lg_sl ([.ref (ad 0), .int p1])).length) Slot.unset).toArray = ls at hl ⊢
  have hl : lv_has ls 3 [(0, .ref (ad 0)), (1, .int p1)] := hl
  clear hAe
  refine lv_aload_n hx hb dX0_get_0 rfl (lv_at hl 0 rfl) ?_
  refine lv_iload_n hx hb dX0_get_1 rfl (lv_at hl 1 rfl) ?_
  refine gxc_q (w := wX ad ca K) (u := u) (vx_runV (As := [.int p1]) (rest := []) ⟨hx, hb, hml, hown, hts⟩ (cX0_known l hl9 dC dI ad ca K H.size u p1 _ _ h) (cwV 1 hts (gG_V wd_364 wd_366 wd_1 wd_46 wd_367) rfl rfl rfl (by decide +kernel) ⟨Nat.le_of_ble_eq_true rfl, Nat.le_of_ble_eq_true rfl⟩) ⟨gB_blind xE_ok, va_recv hK hP (ci := 0) (q0 := 0) rfl rfl, gB_pre xE_ok hP hK hD hE hS hA⟩ rfl rfl hl.1 rfl (lv_room (Nat.le_of_ble_eq_true rfl)) dX0_get_2 ⟨Nat.le_of_ble_eq_true rfl, Nat.le_of_ble_eq_true rfl⟩) hD hS hA (fun E9 ce9 q9 u9 H locs h hP hD hS hce hcv hcl => gx_out hno hlocks h hP hK hD hS hce hcv hcl (Nat.le_of_ble_eq_true rfl) (Nat.le_of_ble_eq_true rfl)) (fun r1 u2 H locs h hP hD hS => ?_)
  refine gq_astore_n (r := r1) (lv' := [(2, va_rf r1), (0, .ref (ad 0)), (1, .int p1)]) hx hb dX0_get_5 rfl hl (by decide) rfl (fun ls hl => ?_)
  refine gq_aload_n (r := r1) hx hb dX0_get_6 rfl (lv_at hl 0 rfl) ?_
  obtain ⟨y3, rfl, hy4, h⟩ := h
  obtain ⟨k9, hk9⟩ := xJ_get hy4
  refine va_get (D := (dC, dI)) (ci := 5) (v := .int (sA u2 0 y3)) (C := RX5) (T := TX5) (N := 9) hx hb hts uwX5 hown hK hP k9 hk9 rfl 5 (by decide) (hts _ wd_327) (fun _ h9 => h9) rfl dX0_get_7 ?_
  refine lv_iconst (v := 3) hx hb dX0_get_10 (by decide) ?_
  refine lv_icmp_ne (tgt := 19) hx hb dX0_get_11 (by decide) (fun c5 => ?_) (fun c5 => ?_)
  · have h := h.1 c5
    refine lv_aload_n hx hb dX0_get_19 rfl (lv_at hl 0 rfl) ?_
    obtain ⟨k9, hk9⟩ := xJ_get hy4
    refine va_get (D := (dC, dI)) (ci := 5) (v := .int (sA u2 0 y3)) (C := RX5) (T := TX5) (N := 9) hx hb hts uwX5 hown hK hP k9 hk9 rfl 5 (by decide) (hts _ wd_327) (fun _ h9 => h9) rfl dX0_get_20 ?_
    refine lv_iconst (v := 4) hx hb dX0_get_23 (by decide) ?_
    refine lv_icmp_eq (tgt := 37) hx hb dX0_get_24 (by decide) (fun c6 => ?_) (fun c6 => ?_)
    · have h := h.1 c6
      refine lv_aload_n hx hb dX0_get_37 rfl (lv_at hl 0 rfl) ?_
      obtain ⟨k9, hk9⟩ := xJ_get hy4
      refine va_get (D := (dC, dI)) (ci := 5) (v := .int (sA u2 2 y3)) (C := RX5) (T := TX5) (N := 9) hx hb hts uwX5 hown hK hP k9 hk9 rfl 7 (by decide) (hts _ wd_333) (fun _ h9 => h9) rfl dX0_get_38 ?_
      by_cases c7 : (sA u2 2 y3) = 1
      · have h := h.1 c7
        have e14 : (sA u2 2 y3).toInt = 1 := by rw [c7]; rfl
        refine lv_tableIn (off := 31) (tgt := 72) hx hb dX0_get_41 (by rw [e14]; decide) (by rw [e14]; decide) (by rw [e14]; rfl) (by decide) ?_
        obtain ⟨sa9, hs9⟩ := xE_text hE 156 "the job divided by zero" (by decide +kernel); exact vx_throwS (names := xSup) hx hb hl9 hown (by decide +kernel) (by decide +kernel) (hts _ wd_556) (hts _ wd_61) hs9 (tw_aex hts (xE_face hE)) tg_aex (xE_U hE) (xE_N hE) hS (hl.1.trans hml.symm) dX0_get_72 dX0_get_75 dX0_get_76 dX0_get_78 dX0_get_81 (fun x hx => (hno x hx).elim) (Nat.le_of_ble_eq_true rfl) (Nat.le_of_ble_eq_true rfl) (Nat.le_of_ble_eq_true rfl) (Nat.le_of_ble_eq_true rfl) hlocks (fun t ha hz hq => gx_thrown h hP hK hD hS ha hz hq) hS.2.2 (Nat.le_of_ble_eq_true rfl) (Nat.le_of_ble_eq_true rfl)
      · have h := h.2 c7
        by_cases c8 : (sA u2 2 y3) = 2
        · have h := h.1 c8
          have e13 : (sA u2 2 y3).toInt = 2 := by rw [c8]; rfl
          refine lv_tableIn (off := 41) (tgt := 82) hx hb dX0_get_41 (by rw [e13]; decide) (by rw [e13]; decide) (by rw [e13]; rfl) (by decide) ?_
          obtain ⟨sa9, hs9⟩ := xE_text hE 161 "the job picked beyond the row" (by decide +kernel); exact vx_throwS (names := xSup) hx hb hl9 hown (by decide +kernel) (by decide +kernel) (hts _ wd_572) (hts _ wd_62) hs9 (tw_ioe hts (xE_face hE)) tg_ioe (xE_U hE) (xE_N hE) hS (hl.1.trans hml.symm) dX0_get_82 dX0_get_85 dX0_get_86 dX0_get_88 dX0_get_91 (fun x hx => (hno x hx).elim) (Nat.le_of_ble_eq_true rfl) (Nat.le_of_ble_eq_true rfl) (Nat.le_of_ble_eq_true rfl) (Nat.le_of_ble_eq_true rfl) hlocks (fun t ha hz hq => gx_thrown h hP hK hD hS ha hz hq) hS.2.2 (Nat.le_of_ble_eq_true rfl) (Nat.le_of_ble_eq_true rfl)
        · have h := h.2 c8
          by_cases c9 : (sA u2 2 y3) = 3
          · have h := h.1 c9
            have e12 : (sA u2 2 y3).toInt = 3 := by rw [c9]; rfl
            refine lv_tableIn (off := 61) (tgt := 102) hx hb dX0_get_41 (by rw [e12]; decide) (by rw [e12]; decide) (by rw [e12]; rfl) (by decide) ?_
            obtain ⟨sa9, hs9⟩ := xE_text hE 166 "the job failed" (by decide +kernel); exact vx_throwS (names := xSup) hx hb hl9 hown (by decide +kernel) (by decide +kernel) (hts _ wd_295) (hts _ wd_57) hs9 (tw_ise hts (xE_face hE)) tg_ise (xE_U hE) (xE_N hE) hS (hl.1.trans hml.symm) dX0_get_102 dX0_get_105 dX0_get_106 dX0_get_108 dX0_get_111 (fun x hx => (hno x hx).elim) (Nat.le_of_ble_eq_true rfl) (Nat.le_of_ble_eq_true rfl) (Nat.le_of_ble_eq_true rfl) (Nat.le_of_ble_eq_true rfl) hlocks (fun t ha hz hq => gx_thrown h hP hK hD hS ha hz hq) hS.2.2 (Nat.le_of_ble_eq_true rfl) (Nat.le_of_ble_eq_true rfl)
          · have h := h.2 c9
            by_cases c10 : (sA u2 2 y3) = 4
            · have h := h.1 c10
              have e11 : (sA u2 2 y3).toInt = 4 := by rw [c10]; rfl
              refine lv_tableIn (off := 51) (tgt := 92) hx hb dX0_get_41 (by rw [e11]; decide) (by rw [e11]; decide) (by rw [e11]; rfl) (by decide) ?_
              obtain ⟨sa9, hs9⟩ := xE_text hE 164 "the job could not fork" (by decide +kernel); exact vx_throwS (names := xSup) hx hb hl9 hown (by decide +kernel) (by decide +kernel) (hts _ wd_459) (hts _ wd_60) hs9 (tw_uoe hts (xE_face hE)) tg_uoe (xE_U hE) (xE_N hE) hS (hl.1.trans hml.symm) dX0_get_92 dX0_get_95 dX0_get_96 dX0_get_98 dX0_get_101 (fun x hx => (hno x hx).elim) (Nat.le_of_ble_eq_true rfl) (Nat.le_of_ble_eq_true rfl) (Nat.le_of_ble_eq_true rfl) (Nat.le_of_ble_eq_true rfl) hlocks (fun t ha hz hq => gx_thrown h hP hK hD hS ha hz hq) hS.2.2 (Nat.le_of_ble_eq_true rfl) (Nat.le_of_ble_eq_true rfl)
            · have h := h.2 c10
              refine lv_tableOut (tgt := 102) hx hb dX0_get_41 (by have a0 := lv_neT (a := 1) c7 rfl; have a1 := lv_neT (a := 2) c8 rfl; have a2 := lv_neT (a := 3) c9 rfl; have a3 := lv_neT (a := 4) c10 rfl; omega) (by decide) ?_
              obtain ⟨sa9, hs9⟩ := xE_text hE 166 "the job failed" (by decide +kernel); exact vx_throwS (names := xSup) hx hb hl9 hown (by decide +kernel) (by decide +kernel) (hts _ wd_295) (hts _ wd_57) hs9 (tw_ise hts (xE_face hE)) tg_ise (xE_U hE) (xE_N hE) hS (hl.1.trans hml.symm) dX0_get_102 dX0_get_105 dX0_get_106 dX0_get_108 dX0_get_111 (fun x hx => (hno x hx).elim) (Nat.le_of_ble_eq_true rfl) (Nat.le_of_ble_eq_true rfl) (Nat.le_of_ble_eq_true rfl) (Nat.le_of_ble_eq_true rfl) hlocks (fun t ha hz hq => gx_thrown h hP hK hD hS ha hz hq) hS.2.2 (Nat.le_of_ble_eq_true rfl) (Nat.le_of_ble_eq_true rfl)
    · have h := h.2 c6
      obtain ⟨sa9, hs9⟩ := xE_text hE 148 "the job has no result" (by decide +kernel); exact vn_throwS (r := xSup1) (Y := "java/lang/RuntimeException") hx hb hl9 dN_0 dN_1 dN_2 dN_5 hown (by decide +kernel) (by decide +kernel) (by decide +kernel) (hts _ wd_372) (hts _ wd_59) hs9 (tw_nse hts (xE_face hE)) tg_nse (xE_U hE) (xE_N hE) hS (hl.1.trans hml.symm) dX0_get_27 dX0_get_30 dX0_get_31 dX0_get_33 dX0_get_36 (fun x hx => (hno x hx).elim) (Nat.le_of_ble_eq_true rfl) (Nat.le_of_ble_eq_true rfl) (Nat.le_of_ble_eq_true rfl) (Nat.le_of_ble_eq_true rfl) hlocks (fun t ha hz hq => gx_thrown h hP hK hD hS ha hz hq) hS.2.2 (Nat.le_of_ble_eq_true rfl) (Nat.le_of_ble_eq_true rfl)
  · have h := h.2 c5
    refine lv_aload_n hx hb dX0_get_14 rfl (lv_at hl 0 rfl) ?_
    obtain ⟨k9, hk9⟩ := xJ_get hy4
    refine va_get (D := (dC, dI)) (ci := 5) (v := .int (sA u2 1 y3)) (C := RX5) (T := TX5) (N := 9) hx hb hts uwX5 hown hK hP k9 hk9 rfl 6 (by decide) (hts _ wd_331) (fun _ h9 => h9) rfl dX0_get_15 ?_
    refine W.widen (k := 3) (n := 18) (Nat.le_of_ble_eq_true rfl) (Nat.le_of_ble_eq_true rfl) (vx_ret ?_); exact gr_i (w := wX ad ca K) (u := u2) hx hb hr hlocks h hP hK hD hS dX0_get_18
end
section
theorem dX0_clock_0 : decode prog_1_method_8_code 0 = .ok (.dload_n 2, 1) := by decide +kernel
theorem dX0_clock_1 : decode prog_1_method_8_code 1 = .ok (.sipush 1000, 3) := by decide +kernel
theorem dX0_clock_4 : decode prog_1_method_8_code 4 = .ok (.invokestatic 168, 3) := by decide +kernel
theorem dX0_clock_7 : decode prog_1_method_8_code 7 = .ok (.dload 4, 2) := by decide +kernel
theorem dX0_clock_9 : decode prog_1_method_8_code 9 = .ok (.sipush 1000, 3) := by decide +kernel
theorem dX0_clock_12 : decode prog_1_method_8_code 12 = .ok (.invokestatic 168, 3) := by decide +kernel
theorem dX0_clock_15 : decode prog_1_method_8_code 15 = .ok (.aload_n 0, 1) := by decide +kernel
theorem dX0_clock_16 : decode prog_1_method_8_code 16 = .ok (.iload_n 1, 1) := by decide +kernel
theorem dX0_clock_17 : decode prog_1_method_8_code 17 = .ok (.invokevirtual 86, 3) := by decide +kernel
theorem dX0_clock_20 : decode prog_1_method_8_code 20 = .ok (.astore 6, 2) := by decide +kernel
theorem dX0_clock_22 : decode prog_1_method_8_code 22 = .ok (.aload_n 0, 1) := by decide +kernel
theorem dX0_clock_23 : decode prog_1_method_8_code 23 = .ok (.getfield 40, 3) := by decide +kernel
theorem dX0_clock_26 : decode prog_1_method_8_code 26 = .ok (.ifCond .ne 15, 3) := by decide +kernel
theorem dX0_clock_29 : decode prog_1_method_8_code 29 = .ok (.aload_n 0, 1) := by decide +kernel
theorem dX0_clock_30 : decode prog_1_method_8_code 30 = .ok (.getfield 32, 3) := by decide +kernel
theorem dX0_clock_33 : decode prog_1_method_8_code 33 = .ok (.getfield 172, 3) := by decide +kernel
theorem dX0_clock_36 : decode prog_1_method_8_code 36 = .ok (.bipush 10, 2) := by decide +kernel
theorem dX0_clock_38 : decode prog_1_method_8_code 38 = .ok (.if_icmp .lt 13, 3) := by decide +kernel
theorem dX0_clock_41 : decode prog_1_method_8_code 41 = .ok (.new 76, 3) := by decide +kernel
theorem dX0_clock_44 : decode prog_1_method_8_code 44 = .ok (.dup, 1) := by decide +kernel
theorem dX0_clock_45 : decode prog_1_method_8_code 45 = .ok (.ldc 175, 2) := by decide +kernel
theorem dX0_clock_47 : decode prog_1_method_8_code 47 = .ok (.invokespecial 80, 3) := by decide +kernel
theorem dX0_clock_50 : decode prog_1_method_8_code 50 = .ok (.athrow, 1) := by decide +kernel
theorem dX0_clock_51 : decode prog_1_method_8_code 51 = .ok (.aload_n 0, 1) := by decide +kernel
theorem dX0_clock_52 : decode prog_1_method_8_code 52 = .ok (.getfield 32, 3) := by decide +kernel
theorem dX0_clock_55 : decode prog_1_method_8_code 55 = .ok (.aload 6, 2) := by decide +kernel
theorem dX0_clock_57 : decode prog_1_method_8_code 57 = .ok (.aload_n 0, 1) := by decide +kernel
theorem dX0_clock_58 : decode prog_1_method_8_code 58 = .ok (.getfield 46, 3) := by decide +kernel
theorem dX0_clock_61 : decode prog_1_method_8_code 61 = .ok (.dload_n 2, 1) := by decide +kernel
theorem dX0_clock_62 : decode prog_1_method_8_code 62 = .ok (.dadd, 1) := by decide +kernel
theorem dX0_clock_63 : decode prog_1_method_8_code 63 = .ok (.dload 4, 2) := by decide +kernel
theorem dX0_clock_65 : decode prog_1_method_8_code 65 = .ok (.invokevirtual 177, 3) := by decide +kernel
theorem dX0_clock_68 : decode prog_1_method_8_code 68 = .ok (.aload_n 0, 1) := by decide +kernel
theorem dX0_clock_69 : decode prog_1_method_8_code 69 = .ok (.getfield 32, 3) := by decide +kernel
theorem dX0_clock_72 : decode prog_1_method_8_code 72 = .ok (.getfield 172, 3) := by decide +kernel
theorem dX0_clock_75 : decode prog_1_method_8_code 75 = .ok (.ireturn, 1) := by decide +kernel
def wpX0_clock (K : KX) (post : Int32 → gS → Prop) (px : String → gS → Prop) (u : gS) (p1 : Int32) (p2 : UInt64) (p3 : UInt64) : Prop :=
  wpX0_checkSpan K (fun (u2 : gS) => wpX0_checkSpan K (fun (u4 : gS) => wpX0_known K (fun (r5 : Option Nat) (u6 : gS) => ((¬ (sI u6 0) = 0 → (px "java/lang/IllegalStateException" u6)) ∧ ((sI u6 0) = 0 → ((((sI u6 6) < 10 → (vf_n64 (FP.dadd (sD u6 0) p2) ∧ (∃ y9 : Nat, r5 = some y9 ∧ y9 ∈ K.2.2.1 ∧ (wpX3_put K (fun (u12 : gS) => post (sI u12 6) u12) u6 y9 (FP.dadd (sD u6 0) p2) p3)))) ∧ (¬ (sI u6 6) < 10 → (px "java/lang/IllegalStateException" u6))))))) px u4 p1) px u2 p3 1000) px u p2 1000

set_option maxHeartbeats 8000000 in
set_option maxRecDepth 100000 in
theorem cX0_clock (l : Launch) (hl9 : l.stackTraces = false) (dC : Nat → ClassId) (dI : Nat → Nat → Nat) (ad : Nat → Nat) (ca : Nat → ClassId) (K : KX) (sz : Nat) (u : gS) (p1 : Int32) (p2 : UInt64) (p3 : UInt64) (post : Int32 → gS → Prop) (px : String → gS → Prop)  (h : wpX0_clock K post px u p1 p2 p3) : vx_Met l ⟨"WorkHall", "clock", "(IDD)I"⟩ (gw ⟨"WorkHall", "clock", "(IDD)I"⟩ prog_1_method_8_code 7 (some .int)) ({ frames := 9, cells := 5, slots := 30, locals := 360 } : Room) (va_Pc [.ref (ad 0), .int p1, .double p2, .double p3] (gB (dC, dI) vwCl (xT ca) xE (wX ad ca K u) sz)) (va_Qi post (gAt (dC, dI) vwCl (xT ca) (wX ad ca K) (va_A (wX ad ca K u) sz)) (va_A (wX ad ca K u) sz)) (gX (dC, dI) vwCl (xT ca) (wX ad ca K) px (va_A (wX ad ca K u) sz)) 5 30 (va_A (wX ad ca K u) sz) := by
  refine vx_ofW (cc := prog_1_method_8_code) (maxL := 7) (ret := (some .int)) (by decide) rfl ?_
  intro p e s m args below meth c s₁ B hml hno hv
  obtain ⟨rfl, hsz, hP, hK, hD0, hE⟩ := hv
  have hx := B.exec
  have hb := B.bytes
  have hr := B.returns
  have hts : ∀ w ∈ gW, w.before _ s = true := fun w h9 => atoms_spec (ws := (gw ⟨"WorkHall", "clock", "(IDD)I"⟩ prog_1_method_8_code 7 (some .int))) B.pre w (List.mem_cons_of_mem _ h9)
  have hown : s.vm.findClass RX0 = some m.cls := findClass_of_methodNamed B.named
  have hlocks := B.notSynchronized
  subst hsz
  have hD := hD0.self (sz := s.heap.size)
  generalize hAe : va_A (wX ad ca K u) s.heap.size = A at hD hE ⊢
  have hA : ∀ q : Nat, s.heap.size ≤ q → A q := fun q h => by rw [← hAe]; exact Or.inr h
  obtain ⟨H, hHe⟩ : ∃ z : Heap, z = s.heap := ⟨_, rfl⟩
  rw [← hHe]
  have hS : va_S A s.heap H [] := by rw [hHe]; exact va_S.rf
  have hP : va_P (dC, dI) vwCl (wX ad ca K u) H := by rw [hHe]; exact hP
  have hl := lv_entry ([.ref (ad 0), .int p1, .double p2, .double p3]) (n := 7) (Nat.le_of_ble_eq_true rfl)
  rw [lg_entry_eq]
  generalize (lg_sl ([.ref (ad 0), .int p1, .double p2, .double p3]) ++ List.replicate (7 - (lg_sl ([.ref (ad 0), .int p1, .double p2, .double p3])).length) Slot.unset).toArray = ls at hl ⊢
  have hl : lv_has ls 7 [(0, .ref (ad 0)), (1, .int p1), (2, .double p2), (4, .double p3)] := hl
  clear hAe
  refine lv_dload_n hx hb dX0_clock_0 rfl (lv_at hl 2 rfl) ?_
  refine lv_sipush (v := 1000) hx hb dX0_clock_1 (by decide) ?_
  refine gxc_v (w := wX ad ca K) (u := u) (vx_runS (As := [.double p2, .int 1000]) (rest := []) ⟨hx, hb, hml, hown, hts⟩ (cX0_checkSpan l hl9 dC dI ad ca K H.size u p2 1000 _ _ h) (va_cwS 2 hts (gG_S wd_597 wd_598 wd_46 wd_599) rfl rfl rfl (by decide +kernel) ⟨Nat.le_of_ble_eq_true rfl, Nat.le_of_ble_eq_true rfl⟩) ⟨gB_blind xE_ok, gB_pre xE_ok hP hK hD hE hS hA⟩ rfl rfl hl.1 rfl (lv_room (Nat.le_of_ble_eq_true rfl)) dX0_clock_4 ⟨Nat.le_of_ble_eq_true rfl, Nat.le_of_ble_eq_true rfl⟩) hD hS hA (fun E9 ce9 q9 u9 H locs h hP hD hS hce hcv hcl => gx_out hno hlocks h hP hK hD hS hce hcv hcl (Nat.le_of_ble_eq_true rfl) (Nat.le_of_ble_eq_true rfl)) (fun u2 H locs h hP hD hS => ?_)
  refine lv_dload hx hb dX0_clock_7 (lv_at hl 3 rfl) ?_
  refine lv_sipush (v := 1000) hx hb dX0_clock_9 (by decide) ?_
  refine gxc_v (w := wX ad ca K) (u := u2) (vx_runS (As := [.double p3, .int 1000]) (rest := []) ⟨hx, hb, hml, hown, hts⟩ (cX0_checkSpan l hl9 dC dI ad ca K H.size u2 p3 1000 _ _ h) (va_cwS 2 hts (gG_S wd_597 wd_598 wd_46 wd_599) rfl rfl rfl (by decide +kernel) ⟨Nat.le_of_ble_eq_true rfl, Nat.le_of_ble_eq_true rfl⟩) ⟨gB_blind xE_ok, gB_pre xE_ok hP hK hD hE hS hA⟩ rfl rfl hl.1 rfl (lv_room (Nat.le_of_ble_eq_true rfl)) dX0_clock_12 ⟨Nat.le_of_ble_eq_true rfl, Nat.le_of_ble_eq_true rfl⟩) hD hS hA (fun E9 ce9 q9 u9 H locs h hP hD hS hce hcv hcl => gx_out hno hlocks h hP hK hD hS hce hcv hcl (Nat.le_of_ble_eq_true rfl) (Nat.le_of_ble_eq_true rfl)) (fun u4 H locs h hP hD hS => ?_)
  refine lv_aload_n hx hb dX0_clock_15 rfl (lv_at hl 0 rfl) ?_
  refine lv_iload_n hx hb dX0_clock_16 rfl (lv_at hl 1 rfl) ?_
  refine gxc_q (w := wX ad ca K) (u := u4) (vx_runV (As := [.int p1]) (rest := []) ⟨hx, hb, hml, hown, hts⟩ (cX0_known l hl9 dC dI ad ca K H.size u4 p1 _ _ h) (cwV 1 hts (gG_V wd_364 wd_366 wd_1 wd_46 wd_367) rfl rfl rfl (by decide +kernel) ⟨Nat.le_of_ble_eq_true rfl, Nat.le_of_ble_eq_true rfl⟩) ⟨gB_blind xE_ok, va_recv hK hP (ci := 0) (q0 := 0) rfl rfl, gB_pre xE_ok hP hK hD hE hS hA⟩ rfl rfl hl.1 rfl (lv_room (Nat.le_of_ble_eq_true rfl)) dX0_clock_17 ⟨Nat.le_of_ble_eq_true rfl, Nat.le_of_ble_eq_true rfl⟩) hD hS hA (fun E9 ce9 q9 u9 H locs h hP hD hS hce hcv hcl => gx_out hno hlocks h hP hK hD hS hce hcv hcl (Nat.le_of_ble_eq_true rfl) (Nat.le_of_ble_eq_true rfl)) (fun r5 u6 H locs h hP hD hS => ?_)
  refine gq_astore (r := r5) (lv' := [(6, va_rf r5), (0, .ref (ad 0)), (1, .int p1), (2, .double p2), (4, .double p3)]) hx hb dX0_clock_20 hl (by decide) rfl (fun ls hl => ?_)
  refine lv_aload_n hx hb dX0_clock_22 rfl (lv_at hl 1 rfl) ?_
  refine va_get (D := (dC, dI)) (ci := 0) (v := .int (sI u6 0)) (C := RX0) (T := TX0) (N := 12) hx hb hts uwX0 hown hK hP 0 rfl rfl 9 (by decide) (hts _ wd_181) (fun _ h9 => h9) rfl dX0_clock_23 ?_
  refine lv_if_ne (tgt := 41) hx hb dX0_clock_26 (by decide) (fun c7 => ?_) (fun c7 => ?_)
  · have h := h.1 c7
    obtain ⟨sa9, hs9⟩ := xE_text hE 175 "the clock takes no entry" (by decide +kernel); exact vx_throwS (names := xSup) hx hb hl9 hown (by decide +kernel) (by decide +kernel) (hts _ wd_295) (hts _ wd_57) hs9 (tw_ise hts (xE_face hE)) tg_ise (xE_U hE) (xE_N hE) hS (hl.1.trans hml.symm) dX0_clock_41 dX0_clock_44 dX0_clock_45 dX0_clock_47 dX0_clock_50 (fun x hx => (hno x hx).elim) (Nat.le_of_ble_eq_true rfl) (Nat.le_of_ble_eq_true rfl) (Nat.le_of_ble_eq_true rfl) (Nat.le_of_ble_eq_true rfl) hlocks (fun t ha hz hq => gx_thrown h hP hK hD hS ha hz hq) hS.2.2 (Nat.le_of_ble_eq_true rfl) (Nat.le_of_ble_eq_true rfl)
  · have h := h.2 c7
    refine lv_aload_n hx hb dX0_clock_29 rfl (lv_at hl 1 rfl) ?_
    refine va_get (D := (dC, dI)) (ci := 0) (v := .ref (ad 7)) (C := RX0) (T := TX0) (N := 12) hx hb hts uwX0 hown hK hP 0 rfl rfl 7 (by decide) (hts _ wd_179) (fun _ h9 => h9) rfl dX0_clock_30 ?_
    refine va_get (D := (dC, dI)) (ci := 3) (v := .int (sI u6 6)) (C := RX3) (T := TX3) (N := 4) hx hb hts uwX3 hown hK hP 7 rfl rfl 3 (by decide) (hts _ wd_153) (fun _ h9 => h9) rfl dX0_clock_33 ?_
    refine lv_bipush (v := 10) hx hb dX0_clock_36 (by decide) ?_
    refine lv_icmp_lt (tgt := 51) hx hb dX0_clock_38 (by decide) (fun c8 => ?_) (fun c8 => ?_)
    · have h := h.1 c8
      refine lv_aload_n hx hb dX0_clock_51 rfl (lv_at hl 1 rfl) ?_
      refine va_get (D := (dC, dI)) (ci := 0) (v := .ref (ad 7)) (C := RX0) (T := TX0) (N := 12) hx hb hts uwX0 hown hK hP 0 rfl rfl 7 (by decide) (hts _ wd_179) (fun _ h9 => h9) rfl dX0_clock_52 ?_
      refine gq_aload (r := r5) hx hb dX0_clock_55 (lv_at hl 0 rfl) ?_
      refine lv_aload_n hx hb dX0_clock_57 rfl (lv_at hl 1 rfl) ?_
      refine va_get (D := (dC, dI)) (ci := 0) (v := .double (sD u6 0)) (C := RX0) (T := TX0) (N := 12) hx hb hts uwX0 hown hK hP 0 rfl rfl 11 (by decide) (hts _ wd_183) (fun _ h9 => h9) rfl dX0_clock_58 ?_
      refine lv_dload_n hx hb dX0_clock_61 rfl (lv_at hl 3 rfl) ?_
      refine lv_dadd hx hb dX0_clock_62 h.1 ?_
      have h := h.2
      refine lv_dload hx hb dX0_clock_63 (lv_at hl 4 rfl) ?_
      obtain ⟨y9, rfl, hy10, h⟩ := h
      refine gc_v (w := wX ad ca K) (u := u6) (va_runV (As := [.ref y9, .double (FP.dadd (sD u6 0) p2), .double p3]) (rest := []) ⟨hx, hb, hml, hown, hts⟩ (cX3_put l dC dI ad ca K H.size u6 y9 (FP.dadd (sD u6 0) p2) p3 _ hy10 h) (cwV 3 hts (gG_V wd_601 wd_602 wd_603 wd_50 wd_604) rfl rfl rfl (by decide +kernel) ⟨Nat.le_of_ble_eq_true rfl, Nat.le_of_ble_eq_true rfl⟩) ⟨gB_blind xE_ok, va_recv hK hP (ci := 3) (q0 := 7) rfl rfl, gB_pre xE_ok hP hK hD hE hS hA⟩ rfl rfl hl.1 rfl (lv_room (Nat.le_of_ble_eq_true rfl)) dX0_clock_65 ⟨Nat.le_of_ble_eq_true rfl, Nat.le_of_ble_eq_true rfl⟩) hD hS hA (fun u12 H locs h hP hD hS => ?_)
      refine lv_aload_n hx hb dX0_clock_68 rfl (lv_at hl 1 rfl) ?_
      refine va_get (D := (dC, dI)) (ci := 0) (v := .ref (ad 7)) (C := RX0) (T := TX0) (N := 12) hx hb hts uwX0 hown hK hP 0 rfl rfl 7 (by decide) (hts _ wd_179) (fun _ h9 => h9) rfl dX0_clock_69 ?_
      refine va_get (D := (dC, dI)) (ci := 3) (v := .int (sI u12 6)) (C := RX3) (T := TX3) (N := 4) hx hb hts uwX3 hown hK hP 7 rfl rfl 3 (by decide) (hts _ wd_153) (fun _ h9 => h9) rfl dX0_clock_72 ?_
      refine W.widen (k := 5) (n := 30) (Nat.le_of_ble_eq_true rfl) (Nat.le_of_ble_eq_true rfl) (vx_ret ?_); exact gr_i (w := wX ad ca K) (u := u12) hx hb hr hlocks h hP hK hD hS dX0_clock_75
    · have h := h.2 c8
      obtain ⟨sa9, hs9⟩ := xE_text hE 175 "the clock takes no entry" (by decide +kernel); exact vx_throwS (names := xSup) hx hb hl9 hown (by decide +kernel) (by decide +kernel) (hts _ wd_295) (hts _ wd_57) hs9 (tw_ise hts (xE_face hE)) tg_ise (xE_U hE) (xE_N hE) hS (hl.1.trans hml.symm) dX0_clock_41 dX0_clock_44 dX0_clock_45 dX0_clock_47 dX0_clock_50 (fun x hx => (hno x hx).elim) (Nat.le_of_ble_eq_true rfl) (Nat.le_of_ble_eq_true rfl) (Nat.le_of_ble_eq_true rfl) (Nat.le_of_ble_eq_true rfl) hlocks (fun t ha hz hq => gx_thrown h hP hK hD hS ha hz hq) hS.2.2 (Nat.le_of_ble_eq_true rfl) (Nat.le_of_ble_eq_true rfl)

theorem dX0_shut_0 : decode prog_1_method_10_code 0 = .ok (.aload_n 0, 1) := by decide +kernel
theorem dX0_shut_1 : decode prog_1_method_10_code 1 = .ok (.getfield 40, 3) := by decide +kernel
theorem dX0_shut_4 : decode prog_1_method_10_code 4 = .ok (.ifCond .eq 13, 3) := by decide +kernel
theorem dX0_shut_7 : decode prog_1_method_10_code 7 = .ok (.new 76, 3) := by decide +kernel
theorem dX0_shut_10 : decode prog_1_method_10_code 10 = .ok (.dup, 1) := by decide +kernel
theorem dX0_shut_11 : decode prog_1_method_10_code 11 = .ok (.ldc 195, 2) := by decide +kernel
theorem dX0_shut_13 : decode prog_1_method_10_code 13 = .ok (.invokespecial 80, 3) := by decide +kernel
theorem dX0_shut_16 : decode prog_1_method_10_code 16 = .ok (.athrow, 1) := by decide +kernel
theorem dX0_shut_17 : decode prog_1_method_10_code 17 = .ok (.aload_n 0, 1) := by decide +kernel
theorem dX0_shut_18 : decode prog_1_method_10_code 18 = .ok (.iconst 1, 1) := by decide +kernel
theorem dX0_shut_19 : decode prog_1_method_10_code 19 = .ok (.putfield 40, 3) := by decide +kernel
theorem dX0_shut_22 : decode prog_1_method_10_code 22 = .ok (.iload_n 1, 1) := by decide +kernel
theorem dX0_shut_23 : decode prog_1_method_10_code 23 = .ok (.ifCond .eq 25, 3) := by decide +kernel
theorem dX0_shut_26 : decode prog_1_method_10_code 26 = .ok (.aload_n 0, 1) := by decide +kernel
theorem dX0_shut_27 : decode prog_1_method_10_code 27 = .ok (.getfield 25, 3) := by decide +kernel
theorem dX0_shut_30 : decode prog_1_method_10_code 30 = .ok (.invokevirtual 197, 3) := by decide +kernel
theorem dX0_shut_33 : decode prog_1_method_10_code 33 = .ok (.aload_n 0, 1) := by decide +kernel
theorem dX0_shut_34 : decode prog_1_method_10_code 34 = .ok (.getfield 18, 3) := by decide +kernel
theorem dX0_shut_37 : decode prog_1_method_10_code 37 = .ok (.aload_n 0, 1) := by decide +kernel
theorem dX0_shut_38 : decode prog_1_method_10_code 38 = .ok (.getfield 46, 3) := by decide +kernel
theorem dX0_shut_41 : decode prog_1_method_10_code 41 = .ok (.invokevirtual 200, 3) := by decide +kernel
theorem dX0_shut_44 : decode prog_1_method_10_code 44 = .ok (.iadd, 1) := by decide +kernel
theorem dX0_shut_45 : decode prog_1_method_10_code 45 = .ok (.goto 4, 3) := by decide +kernel
theorem dX0_shut_48 : decode prog_1_method_10_code 48 = .ok (.iconst 0, 1) := by decide +kernel
theorem dX0_shut_49 : decode prog_1_method_10_code 49 = .ok (.istore_n 2, 1) := by decide +kernel
theorem dX0_shut_50 : decode prog_1_method_10_code 50 = .ok (.aload_n 0, 1) := by decide +kernel
theorem dX0_shut_51 : decode prog_1_method_10_code 51 = .ok (.invokevirtual 122, 3) := by decide +kernel
theorem dX0_shut_54 : decode prog_1_method_10_code 54 = .ok (.iload_n 2, 1) := by decide +kernel
theorem dX0_shut_55 : decode prog_1_method_10_code 55 = .ok (.ireturn, 1) := by decide +kernel
def wpX0_shut (K : KX) (post : Int32 → gS → Prop) (px : String → gS → Prop) (u : gS) (p1 : Int32) : Prop :=
  (((sI u 0) = 0 → (∀ u2 : gS, u2 = tI u 0 1 → (((p1 = 0 → (wpX0_endIfSettled K (fun (u5 : gS) => post 0 u5) u2)) ∧ (¬ p1 = 0 → (wpX2_cancelAll K (fun (r6 : Int32) (u7 : gS) => wpX1_cancelAll K (fun (r8 : Int32) (u9 : gS) => ∀ x10 : Int32, x10 = r6 + r8 → (wpX0_endIfSettled K (fun (u12 : gS) => post x10 u12) u9)) u7 (sD u7 0)) u2)))))) ∧ (¬ (sI u 0) = 0 → (px "java/lang/IllegalStateException" u)))

set_option maxHeartbeats 8000000 in
set_option maxRecDepth 100000 in
theorem cX0_shut (l : Launch) (hl9 : l.stackTraces = false) (dC : Nat → ClassId) (dI : Nat → Nat → Nat) (ad : Nat → Nat) (ca : Nat → ClassId) (K : KX) (sz : Nat) (u : gS) (p1 : Int32) (post : Int32 → gS → Prop) (px : String → gS → Prop)  (h : wpX0_shut K post px u p1) : vx_Met l ⟨"WorkHall", "shut", "(Z)I"⟩ (gw ⟨"WorkHall", "shut", "(Z)I"⟩ prog_1_method_10_code 3 (some .int)) ({ frames := 7, cells := 1, slots := 6, locals := 280 } : Room) (va_Pc [.ref (ad 0), .int p1] (gB (dC, dI) vwCl (xT ca) xE (wX ad ca K u) sz)) (va_Qi post (gAt (dC, dI) vwCl (xT ca) (wX ad ca K) (va_A (wX ad ca K u) sz)) (va_A (wX ad ca K u) sz)) (gX (dC, dI) vwCl (xT ca) (wX ad ca K) px (va_A (wX ad ca K u) sz)) 1 6 (va_A (wX ad ca K u) sz) := by
  refine vx_ofW (cc := prog_1_method_10_code) (maxL := 3) (ret := (some .int)) (by decide) rfl ?_
  intro p e s m args below meth c s₁ B hml hno hv
  obtain ⟨rfl, hsz, hP, hK, hD0, hE⟩ := hv
  have hx := B.exec
  have hb := B.bytes
  have hr := B.returns
  have hts : ∀ w ∈ gW, w.before _ s = true := fun w h9 => atoms_spec (ws := (gw ⟨"WorkHall", "shut", "(Z)I"⟩ prog_1_method_10_code 3 (some .int))) B.pre w (List.mem_cons_of_mem _ h9)
  have hown : s.vm.findClass RX0 = some m.cls := findClass_of_methodNamed B.named
  have hlocks := B.notSynchronized
  subst hsz
  have hD := hD0.self (sz := s.heap.size)
  generalize hAe : va_A (wX ad ca K u) s.heap.size = A at hD hE ⊢
  have hA : ∀ q : Nat, s.heap.size ≤ q → A q := fun q h => by rw [← hAe]; exact Or.inr h
  obtain ⟨H, hHe⟩ : ∃ z : Heap, z = s.heap := ⟨_, rfl⟩
  rw [← hHe]
  have hS : va_S A s.heap H [] := by rw [hHe]; exact va_S.rf
  have hP : va_P (dC, dI) vwCl (wX ad ca K u) H := by rw [hHe]; exact hP
  have hl := lv_entry ([.ref (ad 0), .int p1]) (n := 3) (Nat.le_of_ble_eq_true rfl)
  rw [lg_entry_eq]
  generalize (lg_sl ([.ref (ad 0), .int p1]) ++ List.replicate (3 - (lg_sl ([.ref (ad 0), .int p1])).length) Slot.unset).toArray = ls at hl ⊢
  have hl : lv_has ls 3 [(0, .ref (ad 0)), (1, .int p1)] := hl
  clear hAe
  refine lv_aload_n hx hb dX0_shut_0 rfl (lv_at hl 0 rfl) ?_
  refine va_get (D := (dC, dI)) (ci := 0) (v := .int (sI u 0)) (C := RX0) (T := TX0) (N := 12) hx hb hts uwX0 hown hK hP 0 rfl rfl 9 (by decide) (hts _ wd_181) (fun _ h9 => h9) rfl dX0_shut_1 ?_
  refine lv_if_eq (tgt := 17) hx hb dX0_shut_4 (by decide) (fun c1 => ?_) (fun c1 => ?_)
  · have h := h.1 c1
    refine lv_aload_n hx hb dX0_shut_17 rfl (lv_at hl 0 rfl) ?_
    refine lv_iconst (v := 1) hx hb dX0_shut_18 (by decide) ?_
    refine va_put (D := (dC, dI)) (ci := 0) (v := .int 1) (ty := tyX0 9) (C := RX0) (T := TX0) (N := 12) hx hb hts uwX0 tyX0 tyX0_ok nmX0 hown hK hP hD hS 0 rfl rfl 9 (by decide) (hts _ wd_181) (fun _ h9 => h9) rfl (tyX0_ok 9 (by decide)) rfl rfl (Nat.le_of_ble_eq_true rfl) dX0_shut_19 (fun H locs hP hD hS => ?_)
    obtain ⟨u2, eu2⟩ : ∃ z : gS, z = tI u 0 1 := ⟨_, rfl⟩
    have hP : va_P (dC, dI) vwCl (wX ad ca K u2) H := by rw [eu2, wX_f0_phase]; exact hP
    have hD : va_D A (wX ad ca K u2) := by rw [eu2, wX_f0_phase]; exact hD
    have h := h u2 eu2
    refine lv_iload_n hx hb dX0_shut_22 rfl (lv_at hl 1 rfl) ?_
    refine lv_if_eq (tgt := 48) hx hb dX0_shut_23 (by decide) (fun c3 => ?_) (fun c3 => ?_)
    · have h := h.1 c3
      refine lv_iconst (v := 0) hx hb dX0_shut_48 (by decide) ?_
      refine lv_istore_n (lv' := [(2, .int 0), (0, .ref (ad 0)), (1, .int p1)]) hx hb dX0_shut_49 rfl hl (by decide) rfl (fun ls hl => ?_)
      refine lv_aload_n hx hb dX0_shut_50 rfl (lv_at hl 1 rfl) ?_
      refine gc_v (w := wX ad ca K) (u := u2) (va_runV (As := []) (rest := []) ⟨hx, hb, hml, hown, hts⟩ (cX0_endIfSettled l dC dI ad ca K H.size u2 _ h) (cwV 0 hts (gG_V wd_525 wd_527 wd_12 wd_46 wd_528) rfl rfl rfl (by decide +kernel) ⟨Nat.le_of_ble_eq_true rfl, Nat.le_of_ble_eq_true rfl⟩) ⟨gB_blind xE_ok, va_recv hK hP (ci := 0) (q0 := 0) rfl rfl, gB_pre xE_ok hP hK hD hE hS hA⟩ rfl rfl hl.1 rfl (lv_room (Nat.le_of_ble_eq_true rfl)) dX0_shut_51 ⟨Nat.le_of_ble_eq_true rfl, Nat.le_of_ble_eq_true rfl⟩) hD hS hA (fun u5 H locs h hP hD hS => ?_)
      refine lv_iload_n hx hb dX0_shut_54 rfl (lv_at hl 0 rfl) ?_
      refine W.widen (k := 1) (n := 6) (Nat.le_of_ble_eq_true rfl) (Nat.le_of_ble_eq_true rfl) (vx_ret ?_); exact gr_i (w := wX ad ca K) (u := u5) hx hb hr hlocks h hP hK hD hS dX0_shut_55
    · have h := h.2 c3
      refine lv_aload_n hx hb dX0_shut_26 rfl (lv_at hl 0 rfl) ?_
      refine va_get (D := (dC, dI)) (ci := 0) (v := .ref (ad 4)) (C := RX0) (T := TX0) (N := 12) hx hb hts uwX0 hown hK hP 0 rfl rfl 6 (by decide) (hts _ wd_178) (fun _ h9 => h9) rfl dX0_shut_27 ?_
      refine gc_i (w := wX ad ca K) (u := u2) (va_runV (As := []) (rest := []) ⟨hx, hb, hml, hown, hts⟩ (cX2_cancelAll l dC dI ad ca K H.size u2 _ h) (cwV 0 hts (gG_V wd_642 wd_643 wd_644 wd_49 wd_645) rfl rfl rfl (by decide +kernel) ⟨Nat.le_of_ble_eq_true rfl, Nat.le_of_ble_eq_true rfl⟩) ⟨gB_blind xE_ok, va_recv hK hP (ci := 2) (q0 := 4) rfl rfl, gB_pre xE_ok hP hK hD hE hS hA⟩ rfl rfl hl.1 rfl (lv_room (Nat.le_of_ble_eq_true rfl)) dX0_shut_30 ⟨Nat.le_of_ble_eq_true rfl, Nat.le_of_ble_eq_true rfl⟩) hD hS hA (fun r6 u7 H locs h hP hD hS => ?_)
      refine lv_aload_n hx hb dX0_shut_33 rfl (lv_at hl 0 rfl) ?_
      refine va_get (D := (dC, dI)) (ci := 0) (v := .ref (ad 2)) (C := RX0) (T := TX0) (N := 12) hx hb hts uwX0 hown hK hP 0 rfl rfl 5 (by decide) (hts _ wd_177) (fun _ h9 => h9) rfl dX0_shut_34 ?_
      refine lv_aload_n hx hb dX0_shut_37 rfl (lv_at hl 0 rfl) ?_
      refine va_get (D := (dC, dI)) (ci := 0) (v := .double (sD u7 0)) (C := RX0) (T := TX0) (N := 12) hx hb hts uwX0 hown hK hP 0 rfl rfl 11 (by decide) (hts _ wd_183) (fun _ h9 => h9) rfl dX0_shut_38 ?_
      refine gc_i (w := wX ad ca K) (u := u7) (va_runV (As := [.double (sD u7 0)]) (rest := [.int r6]) ⟨hx, hb, hml, hown, hts⟩ (cX1_cancelAll l dC dI ad ca K H.size u7 (sD u7 0) _ h) (cwV 1 hts (gG_V wd_646 wd_647 wd_648 wd_47 wd_649) rfl rfl rfl (by decide +kernel) ⟨Nat.le_of_ble_eq_true rfl, Nat.le_of_ble_eq_true rfl⟩) ⟨gB_blind xE_ok, va_recv hK hP (ci := 1) (q0 := 2) rfl rfl, gB_pre xE_ok hP hK hD hE hS hA⟩ rfl rfl hl.1 rfl (lv_room (Nat.le_of_ble_eq_true rfl)) dX0_shut_41 ⟨Nat.le_of_ble_eq_true rfl, Nat.le_of_ble_eq_true rfl⟩) hD hS hA (fun r8 u9 H locs h hP hD hS => ?_)
      refine lv_iadd hx hb dX0_shut_44 ?_
      refine lv_goto (tgt := 49) hx hb dX0_shut_45 (by decide) ?_
      refine lv_topi (fun x10 ex10 => ?_)
      have h := h x10 ex10
      refine lv_istore_n (lv' := [(2, .int x10), (0, .ref (ad 0)), (1, .int p1)]) hx hb dX0_shut_49 rfl hl (by decide) rfl (fun ls hl => ?_)
      refine lv_aload_n hx hb dX0_shut_50 rfl (lv_at hl 1 rfl) ?_
      refine gc_v (w := wX ad ca K) (u := u9) (va_runV (As := []) (rest := []) ⟨hx, hb, hml, hown, hts⟩ (cX0_endIfSettled l dC dI ad ca K H.size u9 _ h) (cwV 0 hts (gG_V wd_525 wd_527 wd_12 wd_46 wd_528) rfl rfl rfl (by decide +kernel) ⟨Nat.le_of_ble_eq_true rfl, Nat.le_of_ble_eq_true rfl⟩) ⟨gB_blind xE_ok, va_recv hK hP (ci := 0) (q0 := 0) rfl rfl, gB_pre xE_ok hP hK hD hE hS hA⟩ rfl rfl hl.1 rfl (lv_room (Nat.le_of_ble_eq_true rfl)) dX0_shut_51 ⟨Nat.le_of_ble_eq_true rfl, Nat.le_of_ble_eq_true rfl⟩) hD hS hA (fun u12 H locs h hP hD hS => ?_)
      refine lv_iload_n hx hb dX0_shut_54 rfl (lv_at hl 0 rfl) ?_
      refine W.widen (k := 1) (n := 6) (Nat.le_of_ble_eq_true rfl) (Nat.le_of_ble_eq_true rfl) (vx_ret ?_); exact gr_i (w := wX ad ca K) (u := u12) hx hb hr hlocks h hP hK hD hS dX0_shut_55
  · have h := h.2 c1
    obtain ⟨sa9, hs9⟩ := xE_text hE 195 "the pool is not open" (by decide +kernel); exact vx_throwS (names := xSup) hx hb hl9 hown (by decide +kernel) (by decide +kernel) (hts _ wd_295) (hts _ wd_57) hs9 (tw_ise hts (xE_face hE)) tg_ise (xE_U hE) (xE_N hE) hS (hl.1.trans hml.symm) dX0_shut_7 dX0_shut_10 dX0_shut_11 dX0_shut_13 dX0_shut_16 (fun x hx => (hno x hx).elim) (Nat.le_of_ble_eq_true rfl) (Nat.le_of_ble_eq_true rfl) (Nat.le_of_ble_eq_true rfl) (Nat.le_of_ble_eq_true rfl) hlocks (fun t ha hz hq => gx_thrown h hP hK hD hS ha hz hq) hS.2.2 (Nat.le_of_ble_eq_true rfl) (Nat.le_of_ble_eq_true rfl)

theorem dX0_about_0 : decode prog_1_method_11_code 0 = .ok (.iload_n 2, 1) := by decide +kernel
theorem dX0_about_1 : decode prog_1_method_11_code 1 = .ok (.iconst 0, 1) := by decide +kernel
theorem dX0_about_2 : decode prog_1_method_11_code 2 = .ok (.iconst 4, 1) := by decide +kernel
theorem dX0_about_3 : decode prog_1_method_11_code 3 = .ok (.invokestatic 72, 3) := by decide +kernel
theorem dX0_about_6 : decode prog_1_method_11_code 6 = .ok (.aload_n 0, 1) := by decide +kernel
theorem dX0_about_7 : decode prog_1_method_11_code 7 = .ok (.iload_n 1, 1) := by decide +kernel
theorem dX0_about_8 : decode prog_1_method_11_code 8 = .ok (.invokevirtual 86, 3) := by decide +kernel
theorem dX0_about_11 : decode prog_1_method_11_code 11 = .ok (.astore_n 3, 1) := by decide +kernel
theorem dX0_about_12 : decode prog_1_method_11_code 12 = .ok (.iload_n 2, 1) := by decide +kernel
theorem dX0_about_13 : decode prog_1_method_11_code 13 = .ok (.tableswitch 52 0 3 #[31, 36, 41, 46], 31) := by decide +kernel
theorem dX0_about_44 : decode prog_1_method_11_code 44 = .ok (.aload_n 3, 1) := by decide +kernel
theorem dX0_about_45 : decode prog_1_method_11_code 45 = .ok (.getfield 90, 3) := by decide +kernel
theorem dX0_about_48 : decode prog_1_method_11_code 48 = .ok (.ireturn, 1) := by decide +kernel
theorem dX0_about_49 : decode prog_1_method_11_code 49 = .ok (.aload_n 3, 1) := by decide +kernel
theorem dX0_about_50 : decode prog_1_method_11_code 50 = .ok (.getfield 203, 3) := by decide +kernel
theorem dX0_about_53 : decode prog_1_method_11_code 53 = .ok (.ireturn, 1) := by decide +kernel
theorem dX0_about_54 : decode prog_1_method_11_code 54 = .ok (.aload_n 3, 1) := by decide +kernel
theorem dX0_about_55 : decode prog_1_method_11_code 55 = .ok (.invokevirtual 111, 3) := by decide +kernel
theorem dX0_about_58 : decode prog_1_method_11_code 58 = .ok (.ireturn, 1) := by decide +kernel
theorem dX0_about_59 : decode prog_1_method_11_code 59 = .ok (.aload_n 0, 1) := by decide +kernel
theorem dX0_about_60 : decode prog_1_method_11_code 60 = .ok (.aload_n 3, 1) := by decide +kernel
theorem dX0_about_61 : decode prog_1_method_11_code 61 = .ok (.invokevirtual 206, 3) := by decide +kernel
theorem dX0_about_64 : decode prog_1_method_11_code 64 = .ok (.ireturn, 1) := by decide +kernel
theorem dX0_about_65 : decode prog_1_method_11_code 65 = .ok (.aload_n 3, 1) := by decide +kernel
theorem dX0_about_66 : decode prog_1_method_11_code 66 = .ok (.getfield 90, 3) := by decide +kernel
theorem dX0_about_69 : decode prog_1_method_11_code 69 = .ok (.iconst 4, 1) := by decide +kernel
theorem dX0_about_70 : decode prog_1_method_11_code 70 = .ok (.if_icmp .ne 10, 3) := by decide +kernel
theorem dX0_about_73 : decode prog_1_method_11_code 73 = .ok (.aload_n 3, 1) := by decide +kernel
theorem dX0_about_74 : decode prog_1_method_11_code 74 = .ok (.getfield 151, 3) := by decide +kernel
theorem dX0_about_77 : decode prog_1_method_11_code 77 = .ok (.goto 4, 3) := by decide +kernel
theorem dX0_about_80 : decode prog_1_method_11_code 80 = .ok (.iconst 0, 1) := by decide +kernel
theorem dX0_about_81 : decode prog_1_method_11_code 81 = .ok (.ireturn, 1) := by decide +kernel
def wpX0_about (K : KX) (post : Int32 → gS → Prop) (px : String → gS → Prop) (u : gS) (p1 : Int32) (p2 : Int32) : Prop :=
  wpX0_checkRange K (fun (u2 : gS) => wpX0_known K (fun (r3 : Option Nat) (u4 : gS) => ((p2 = 0 → (∃ y6 : Nat, r3 = some y6 ∧ y6 ∈ K.2.2.1 ∧ (post (sA u4 0 y6) u4))) ∧ (¬ p2 = 0 → (((p2 = 1 → (∃ y9 : Nat, r3 = some y9 ∧ y9 ∈ K.2.2.1 ∧ (post (K.2.2.2.1 y9 1) u4))) ∧ (¬ p2 = 1 → (((p2 = 2 → (∃ y12 : Nat, r3 = some y12 ∧ y12 ∈ K.2.2.1 ∧ (wpX5_nextNumber K (fun (r14 : Int32) (u15 : gS) => post r14 u15) u4 y12))) ∧ (¬ p2 = 2 → (((p2 = 3 → (∃ y17 : Nat, r3 = some y17 ∧ y17 ∈ K.2.2.1 ∧ (wpX0_placeOf K (fun (r19 : Int32) (u20 : gS) => post r19 u20) u4 y17))) ∧ (¬ p2 = 3 → (∃ y21 : Nat, r3 = some y21 ∧ y21 ∈ K.2.2.1 ∧ (((¬ (sA u4 0 y21) = 4 → (post 0 u4)) ∧ ((sA u4 0 y21) = 4 → (post (sA u4 2 y21) u4))))))))))))))))) px u2 p1) px u p2 0 4

set_option maxHeartbeats 8000000 in
set_option maxRecDepth 100000 in
theorem cX0_about (l : Launch) (hl9 : l.stackTraces = false) (dC : Nat → ClassId) (dI : Nat → Nat → Nat) (ad : Nat → Nat) (ca : Nat → ClassId) (K : KX) (sz : Nat) (u : gS) (p1 : Int32) (p2 : Int32) (post : Int32 → gS → Prop) (px : String → gS → Prop)  (h : wpX0_about K post px u p1 p2) : vx_Met l ⟨"WorkHall", "about", "(II)I"⟩ (gw ⟨"WorkHall", "about", "(II)I"⟩ prog_1_method_11_code 4 (some .int)) ({ frames := 9, cells := 3, slots := 18, locals := 360 } : Room) (va_Pc [.ref (ad 0), .int p1, .int p2] (gB (dC, dI) vwCl (xT ca) xE (wX ad ca K u) sz)) (va_Qi post (gAt (dC, dI) vwCl (xT ca) (wX ad ca K) (va_A (wX ad ca K u) sz)) (va_A (wX ad ca K u) sz)) (gX (dC, dI) vwCl (xT ca) (wX ad ca K) px (va_A (wX ad ca K u) sz)) 3 18 (va_A (wX ad ca K u) sz) := by
  refine vx_ofW (cc := prog_1_method_11_code) (maxL := 4) (ret := (some .int)) (by decide) rfl ?_
  intro p e s m args below meth c s₁ B hml hno hv
  obtain ⟨rfl, hsz, hP, hK, hD0, hE⟩ := hv
  have hx := B.exec
  have hb := B.bytes
  have hr := B.returns
  have hts : ∀ w ∈ gW, w.before _ s = true := fun w h9 => atoms_spec (ws := (gw ⟨"WorkHall", "about", "(II)I"⟩ prog_1_method_11_code 4 (some .int))) B.pre w (List.mem_cons_of_mem _ h9)
  have hown : s.vm.findClass RX0 = some m.cls := findClass_of_methodNamed B.named
  have hlocks := B.notSynchronized
  subst hsz
  have hD := hD0.self (sz := s.heap.size)
  generalize hAe : va_A (wX ad ca K u) s.heap.size = A at hD hE ⊢
  have hA : ∀ q : Nat, s.heap.size ≤ q → A q := fun q h => by rw [← hAe]; exact Or.inr h
  obtain ⟨H, hHe⟩ : ∃ z : Heap, z = s.heap := ⟨_, rfl⟩
  rw [← hHe]
  have hS : va_S A s.heap H [] := by rw [hHe]; exact va_S.rf
  have hP : va_P (dC, dI) vwCl (wX ad ca K u) H := by rw [hHe]; exact hP
  have hl := lv_entry ([.ref (ad 0), .int p1, .int p2]) (n := 4) (Nat.le_of_ble_eq_true rfl)
  rw [lg_entry_eq]
  generalize (lg_sl ([.ref (ad 0), .int p1, .int p2]) ++ List.replicate (4 - (lg_sl ([.ref (ad 0), .int p1, .int p2])).length) Slot.unset).toArray = ls at hl ⊢
  have hl : lv_has ls 4 [(0, .ref (ad 0)), (1, .int p1), (2, .int p2)] := hl
  clear hAe
  refine lv_iload_n hx hb dX0_about_0 rfl (lv_at hl 2 rfl) ?_
  refine lv_iconst (v := 0) hx hb dX0_about_1 (by decide) ?_
  refine lv_iconst (v := 4) hx hb dX0_about_2 (by decide) ?_
  refine gxc_v (w := wX ad ca K) (u := u) (vx_runS (As := [.int p2, .int 0, .int 4]) (rest := []) ⟨hx, hb, hml, hown, hts⟩ (cX0_checkRange l hl9 dC dI ad ca K H.size u p2 0 4 _ _ h) (va_cwS 3 hts (gG_S wd_221 wd_222 wd_46 wd_223) rfl rfl rfl (by decide +kernel) ⟨Nat.le_of_ble_eq_true rfl, Nat.le_of_ble_eq_true rfl⟩) ⟨gB_blind xE_ok, gB_pre xE_ok hP hK hD hE hS hA⟩ rfl rfl hl.1 rfl (lv_room (Nat.le_of_ble_eq_true rfl)) dX0_about_3 ⟨Nat.le_of_ble_eq_true rfl, Nat.le_of_ble_eq_true rfl⟩) hD hS hA (fun E9 ce9 q9 u9 H locs h hP hD hS hce hcv hcl => gx_out hno hlocks h hP hK hD hS hce hcv hcl (Nat.le_of_ble_eq_true rfl) (Nat.le_of_ble_eq_true rfl)) (fun u2 H locs h hP hD hS => ?_)
  refine lv_aload_n hx hb dX0_about_6 rfl (lv_at hl 0 rfl) ?_
  refine lv_iload_n hx hb dX0_about_7 rfl (lv_at hl 1 rfl) ?_
  refine gxc_q (w := wX ad ca K) (u := u2) (vx_runV (As := [.int p1]) (rest := []) ⟨hx, hb, hml, hown, hts⟩ (cX0_known l hl9 dC dI ad ca K H.size u2 p1 _ _ h) (cwV 1 hts (gG_V wd_364 wd_366 wd_1 wd_46 wd_367) rfl rfl rfl (by decide +kernel) ⟨Nat.le_of_ble_eq_true rfl, Nat.le_of_ble_eq_true rfl⟩) ⟨gB_blind xE_ok, va_recv hK hP (ci := 0) (q0 := 0) rfl rfl, gB_pre xE_ok hP hK hD hE hS hA⟩ rfl rfl hl.1 rfl (lv_room (Nat.le_of_ble_eq_true rfl)) dX0_about_8 ⟨Nat.le_of_ble_eq_true rfl, Nat.le_of_ble_eq_true rfl⟩) hD hS hA (fun E9 ce9 q9 u9 H locs h hP hD hS hce hcv hcl => gx_out hno hlocks h hP hK hD hS hce hcv hcl (Nat.le_of_ble_eq_true rfl) (Nat.le_of_ble_eq_true rfl)) (fun r3 u4 H locs h hP hD hS => ?_)
  refine gq_astore_n (r := r3) (lv' := [(3, va_rf r3), (0, .ref (ad 0)), (1, .int p1), (2, .int p2)]) hx hb dX0_about_11 rfl hl (by decide) rfl (fun ls hl => ?_)
  refine lv_iload_n hx hb dX0_about_12 rfl (lv_at hl 3 rfl) ?_
  by_cases c5 : p2 = 0
  · have h := h.1 c5
    have e27 : (p2).toInt = 0 := by rw [c5]; rfl
    refine lv_tableIn (off := 31) (tgt := 44) hx hb dX0_about_13 (by rw [e27]; decide) (by rw [e27]; decide) (by rw [e27]; rfl) (by decide) ?_
    refine gq_aload_n (r := r3) hx hb dX0_about_44 rfl (lv_at hl 0 rfl) ?_
    obtain ⟨y6, rfl, hy7, h⟩ := h
    obtain ⟨k9, hk9⟩ := xJ_get hy7
    refine va_get (D := (dC, dI)) (ci := 5) (v := .int (sA u4 0 y6)) (C := RX5) (T := TX5) (N := 9) hx hb hts uwX5 hown hK hP k9 hk9 rfl 5 (by decide) (hts _ wd_327) (fun _ h9 => h9) rfl dX0_about_45 ?_
    refine W.widen (k := 3) (n := 18) (Nat.le_of_ble_eq_true rfl) (Nat.le_of_ble_eq_true rfl) (vx_ret ?_); exact gr_i (w := wX ad ca K) (u := u4) hx hb hr hlocks h hP hK hD hS dX0_about_48
  · have h := h.2 c5
    by_cases c8 : p2 = 1
    · have h := h.1 c8
      have e26 : (p2).toInt = 1 := by rw [c8]; rfl
      refine lv_tableIn (off := 36) (tgt := 49) hx hb dX0_about_13 (by rw [e26]; decide) (by rw [e26]; decide) (by rw [e26]; rfl) (by decide) ?_
      refine gq_aload_n (r := r3) hx hb dX0_about_49 rfl (lv_at hl 0 rfl) ?_
      obtain ⟨y9, rfl, hy10, h⟩ := h
      obtain ⟨k9, hk9⟩ := xJ_get hy10
      refine va_get (D := (dC, dI)) (ci := 5) (v := .int (K.2.2.2.1 y9 1)) (C := RX5) (T := TX5) (N := 9) hx hb hts uwX5 hown hK hP k9 hk9 rfl 1 (by decide) (hts _ wd_318) (fun _ h9 => h9) rfl dX0_about_50 ?_
      refine W.widen (k := 3) (n := 18) (Nat.le_of_ble_eq_true rfl) (Nat.le_of_ble_eq_true rfl) (vx_ret ?_); exact gr_i (w := wX ad ca K) (u := u4) hx hb hr hlocks h hP hK hD hS dX0_about_53
    · have h := h.2 c8
      by_cases c11 : p2 = 2
      · have h := h.1 c11
        have e25 : (p2).toInt = 2 := by rw [c11]; rfl
        refine lv_tableIn (off := 41) (tgt := 54) hx hb dX0_about_13 (by rw [e25]; decide) (by rw [e25]; decide) (by rw [e25]; rfl) (by decide) ?_
        refine gq_aload_n (r := r3) hx hb dX0_about_54 rfl (lv_at hl 0 rfl) ?_
        obtain ⟨y12, rfl, hy13, h⟩ := h
        refine gc_i (w := wX ad ca K) (u := u4) (va_runV (As := []) (rest := []) ⟨hx, hb, hml, hown, hts⟩ (cX5_nextNumber l dC dI ad ca K H.size u4 y12 _ hy13 h) (cwV 0 hts (gG_V wd_484 wd_485 wd_486 wd_58 wd_487) rfl rfl rfl (by decide +kernel) ⟨Nat.le_of_ble_eq_true rfl, Nat.le_of_ble_eq_true rfl⟩) ⟨gB_blind xE_ok, (by obtain ⟨k9, hk9⟩ := xJ_get hy13; exact va_recv hK hP (ci := 5) (q0 := k9) rfl hk9), gB_pre xE_ok hP hK hD hE hS hA⟩ rfl rfl hl.1 rfl (lv_room (Nat.le_of_ble_eq_true rfl)) dX0_about_55 ⟨Nat.le_of_ble_eq_true rfl, Nat.le_of_ble_eq_true rfl⟩) hD hS hA (fun r14 u15 H locs h hP hD hS => ?_)
        refine W.widen (k := 3) (n := 18) (Nat.le_of_ble_eq_true rfl) (Nat.le_of_ble_eq_true rfl) (vx_ret ?_); exact gr_i (w := wX ad ca K) (u := u15) hx hb hr hlocks h hP hK hD hS dX0_about_58
      · have h := h.2 c11
        by_cases c16 : p2 = 3
        · have h := h.1 c16
          have e24 : (p2).toInt = 3 := by rw [c16]; rfl
          refine lv_tableIn (off := 46) (tgt := 59) hx hb dX0_about_13 (by rw [e24]; decide) (by rw [e24]; decide) (by rw [e24]; rfl) (by decide) ?_
          refine lv_aload_n hx hb dX0_about_59 rfl (lv_at hl 1 rfl) ?_
          refine gq_aload_n (r := r3) hx hb dX0_about_60 rfl (lv_at hl 0 rfl) ?_
          obtain ⟨y17, rfl, hy18, h⟩ := h
          refine gc_i (w := wX ad ca K) (u := u4) (va_runV (As := [.ref y17]) (rest := []) ⟨hx, hb, hml, hown, hts⟩ (cX0_placeOf l dC dI ad ca K H.size u4 y17 _ hy18 h) (cwV 1 hts (gG_V wd_658 wd_660 wd_15 wd_46 wd_661) rfl rfl rfl (by decide +kernel) ⟨Nat.le_of_ble_eq_true rfl, Nat.le_of_ble_eq_true rfl⟩) ⟨gB_blind xE_ok, va_recv hK hP (ci := 0) (q0 := 0) rfl rfl, gB_pre xE_ok hP hK hD hE hS hA⟩ rfl rfl hl.1 rfl (lv_room (Nat.le_of_ble_eq_true rfl)) dX0_about_61 ⟨Nat.le_of_ble_eq_true rfl, Nat.le_of_ble_eq_true rfl⟩) hD hS hA (fun r19 u20 H locs h hP hD hS => ?_)
          refine W.widen (k := 3) (n := 18) (Nat.le_of_ble_eq_true rfl) (Nat.le_of_ble_eq_true rfl) (vx_ret ?_); exact gr_i (w := wX ad ca K) (u := u20) hx hb hr hlocks h hP hK hD hS dX0_about_64
        · have h := h.2 c16
          refine lv_tableOut (tgt := 65) hx hb dX0_about_13 (by have a0 := lv_neT (a := 0) c5 rfl; have a1 := lv_neT (a := 1) c8 rfl; have a2 := lv_neT (a := 2) c11 rfl; have a3 := lv_neT (a := 3) c16 rfl; omega) (by decide) ?_
          refine gq_aload_n (r := r3) hx hb dX0_about_65 rfl (lv_at hl 0 rfl) ?_
          obtain ⟨y21, rfl, hy22, h⟩ := h
          obtain ⟨k9, hk9⟩ := xJ_get hy22
          refine va_get (D := (dC, dI)) (ci := 5) (v := .int (sA u4 0 y21)) (C := RX5) (T := TX5) (N := 9) hx hb hts uwX5 hown hK hP k9 hk9 rfl 5 (by decide) (hts _ wd_327) (fun _ h9 => h9) rfl dX0_about_66 ?_
          refine lv_iconst (v := 4) hx hb dX0_about_69 (by decide) ?_
          refine lv_icmp_ne (tgt := 80) hx hb dX0_about_70 (by decide) (fun c23 => ?_) (fun c23 => ?_)
          · have h := h.1 c23
            refine lv_iconst (v := 0) hx hb dX0_about_80 (by decide) ?_
            refine W.widen (k := 3) (n := 18) (Nat.le_of_ble_eq_true rfl) (Nat.le_of_ble_eq_true rfl) (vx_ret ?_); exact gr_i (w := wX ad ca K) (u := u4) hx hb hr hlocks h hP hK hD hS dX0_about_81
          · have h := h.2 c23
            refine lv_aload_n hx hb dX0_about_73 rfl (lv_at hl 0 rfl) ?_
            obtain ⟨k9, hk9⟩ := xJ_get hy22
            refine va_get (D := (dC, dI)) (ci := 5) (v := .int (sA u4 2 y21)) (C := RX5) (T := TX5) (N := 9) hx hb hts uwX5 hown hK hP k9 hk9 rfl 7 (by decide) (hts _ wd_333) (fun _ h9 => h9) rfl dX0_about_74 ?_
            refine lv_goto (tgt := 81) hx hb dX0_about_77 (by decide) ?_
            refine W.widen (k := 3) (n := 18) (Nat.le_of_ble_eq_true rfl) (Nat.le_of_ble_eq_true rfl) (vx_ret ?_); exact gr_i (w := wX ad ca K) (u := u4) hx hb hr hlocks h hP hK hD hS dX0_about_81

theorem dX0_worker_0 : decode prog_1_method_12_code 0 = .ok (.aload_n 0, 1) := by decide +kernel
theorem dX0_worker_1 : decode prog_1_method_12_code 1 = .ok (.getfield 18, 3) := by decide +kernel
theorem dX0_worker_4 : decode prog_1_method_12_code 4 = .ok (.iload_n 1, 1) := by decide +kernel
theorem dX0_worker_5 : decode prog_1_method_12_code 5 = .ok (.invokevirtual 135, 3) := by decide +kernel
theorem dX0_worker_8 : decode prog_1_method_12_code 8 = .ok (.astore_n 2, 1) := by decide +kernel
theorem dX0_worker_9 : decode prog_1_method_12_code 9 = .ok (.aload_n 2, 1) := by decide +kernel
theorem dX0_worker_10 : decode prog_1_method_12_code 10 = .ok (.ifnonnull 13, 3) := by decide +kernel
theorem dX0_worker_13 : decode prog_1_method_12_code 13 = .ok (.new 146, 3) := by decide +kernel
theorem dX0_worker_16 : decode prog_1_method_12_code 16 = .ok (.dup, 1) := by decide +kernel
theorem dX0_worker_17 : decode prog_1_method_12_code 17 = .ok (.ldc 207, 2) := by decide +kernel
theorem dX0_worker_19 : decode prog_1_method_12_code 19 = .ok (.invokespecial 150, 3) := by decide +kernel
theorem dX0_worker_22 : decode prog_1_method_12_code 22 = .ok (.athrow, 1) := by decide +kernel
theorem dX0_worker_23 : decode prog_1_method_12_code 23 = .ok (.aload_n 2, 1) := by decide +kernel
theorem dX0_worker_24 : decode prog_1_method_12_code 24 = .ok (.getfield 209, 3) := by decide +kernel
theorem dX0_worker_27 : decode prog_1_method_12_code 27 = .ok (.ireturn, 1) := by decide +kernel
def wpX0_worker (K : KX) (post : Int32 → gS → Prop) (px : String → gS → Prop) (u : gS) (p1 : Int32) : Prop :=
  wpX1_at K (fun (r1 : Option Nat) (u2 : gS) => ((r1 = none → (px "java/util/NoSuchElementException" u2)) ∧ (∀ y3 : Nat, r1 = some y3 → (y3 ∈ K.2.1 ∧ (post (sA u2 3 y3) u2))))) u p1

set_option maxHeartbeats 8000000 in
set_option maxRecDepth 100000 in
theorem cX0_worker (l : Launch) (hl9 : l.stackTraces = false) (dC : Nat → ClassId) (dI : Nat → Nat → Nat) (ad : Nat → Nat) (ca : Nat → ClassId) (K : KX) (sz : Nat) (u : gS) (p1 : Int32) (post : Int32 → gS → Prop) (px : String → gS → Prop)  (h : wpX0_worker K post px u p1) : vx_Met l ⟨"WorkHall", "worker", "(I)I"⟩ (gw ⟨"WorkHall", "worker", "(I)I"⟩ prog_1_method_12_code 3 (some .int)) ({ frames := 7, cells := 1, slots := 6, locals := 280 } : Room) (va_Pc [.ref (ad 0), .int p1] (gB (dC, dI) vwCl (xT ca) xE (wX ad ca K u) sz)) (va_Qi post (gAt (dC, dI) vwCl (xT ca) (wX ad ca K) (va_A (wX ad ca K u) sz)) (va_A (wX ad ca K u) sz)) (gX (dC, dI) vwCl (xT ca) (wX ad ca K) px (va_A (wX ad ca K u) sz)) 1 6 (va_A (wX ad ca K u) sz) := by
  refine vx_ofW (cc := prog_1_method_12_code) (maxL := 3) (ret := (some .int)) (by decide) rfl ?_
  intro p e s m args below meth c s₁ B hml hno hv
  obtain ⟨rfl, hsz, hP, hK, hD0, hE⟩ := hv
  have hx := B.exec
  have hb := B.bytes
  have hr := B.returns
  have hts : ∀ w ∈ gW, w.before _ s = true := fun w h9 => atoms_spec (ws := (gw ⟨"WorkHall", "worker", "(I)I"⟩ prog_1_method_12_code 3 (some .int))) B.pre w (List.mem_cons_of_mem _ h9)
  have hown : s.vm.findClass RX0 = some m.cls := findClass_of_methodNamed B.named
  have hlocks := B.notSynchronized
  subst hsz
  have hD := hD0.self (sz := s.heap.size)
  generalize hAe : va_A (wX ad ca K u) s.heap.size = A at hD hE ⊢
  have hA : ∀ q : Nat, s.heap.size ≤ q → A q := fun q h => by rw [← hAe]; exact Or.inr h
  obtain ⟨H, hHe⟩ : ∃ z : Heap, z = s.heap := ⟨_, rfl⟩
  rw [← hHe]
  have hS : va_S A s.heap H [] := by rw [hHe]; exact va_S.rf
  have hP : va_P (dC, dI) vwCl (wX ad ca K u) H := by rw [hHe]; exact hP
  have hl := lv_entry ([.ref (ad 0), .int p1]) (n := 3) (Nat.le_of_ble_eq_true rfl)
  rw [lg_entry_eq]
  generalize (lg_sl ([.ref (ad 0), .int p1]) ++ List.replicate (3 - (lg_sl ([.ref (ad 0), .int p1])).length) Slot.unset).toArray = ls at hl ⊢
  have hl : lv_has ls 3 [(0, .ref (ad 0)), (1, .int p1)] := hl
  clear hAe
  refine lv_aload_n hx hb dX0_worker_0 rfl (lv_at hl 0 rfl) ?_
  refine va_get (D := (dC, dI)) (ci := 0) (v := .ref (ad 2)) (C := RX0) (T := TX0) (N := 12) hx hb hts uwX0 hown hK hP 0 rfl rfl 5 (by decide) (hts _ wd_177) (fun _ h9 => h9) rfl dX0_worker_1 ?_
  refine lv_iload_n hx hb dX0_worker_4 rfl (lv_at hl 1 rfl) ?_
  refine gc_q (w := wX ad ca K) (u := u) (va_runV (As := [.int p1]) (rest := []) ⟨hx, hb, hml, hown, hts⟩ (cX1_at l dC dI ad ca K H.size u p1 _ h) (cwV 1 hts (gG_V wd_503 wd_402 wd_403 wd_47 wd_404) rfl rfl rfl (by decide +kernel) ⟨Nat.le_of_ble_eq_true rfl, Nat.le_of_ble_eq_true rfl⟩) ⟨gB_blind xE_ok, va_recv hK hP (ci := 1) (q0 := 2) rfl rfl, gB_pre xE_ok hP hK hD hE hS hA⟩ rfl rfl hl.1 rfl (lv_room (Nat.le_of_ble_eq_true rfl)) dX0_worker_5 ⟨Nat.le_of_ble_eq_true rfl, Nat.le_of_ble_eq_true rfl⟩) hD hS hA (fun r1 u2 H locs h hP hD hS => ?_)
  refine gq_astore_n (r := r1) (lv' := [(2, va_rf r1), (0, .ref (ad 0)), (1, .int p1)]) hx hb dX0_worker_8 rfl hl (by decide) rfl (fun ls hl => ?_)
  refine gq_aload_n (r := r1) hx hb dX0_worker_9 rfl (lv_at hl 0 rfl) ?_
  rcases r1 with _ | y3
  · have h := h.1 rfl
    refine lv_ifnonnullN hx hb dX0_worker_10 ?_
    obtain ⟨sa9, hs9⟩ := xE_text hE 207 "there is no such worker" (by decide +kernel); exact vn_throwS (r := xSup1) (Y := "java/lang/RuntimeException") hx hb hl9 dN_0 dN_1 dN_2 dN_5 hown (by decide +kernel) (by decide +kernel) (by decide +kernel) (hts _ wd_372) (hts _ wd_59) hs9 (tw_nse hts (xE_face hE)) tg_nse (xE_U hE) (xE_N hE) hS (hl.1.trans hml.symm) dX0_worker_13 dX0_worker_16 dX0_worker_17 dX0_worker_19 dX0_worker_22 (fun x hx => (hno x hx).elim) (Nat.le_of_ble_eq_true rfl) (Nat.le_of_ble_eq_true rfl) (Nat.le_of_ble_eq_true rfl) (Nat.le_of_ble_eq_true rfl) hlocks (fun t ha hz hq => gx_thrown h hP hK hD hS ha hz hq) hS.2.2 (Nat.le_of_ble_eq_true rfl) (Nat.le_of_ble_eq_true rfl)
  · have h := h.2 y3 rfl
    refine lv_ifnonnull (tgt := 23) hx hb dX0_worker_10 (by decide) ?_
    refine lv_aload_n hx hb dX0_worker_23 rfl (lv_at hl 0 rfl) ?_
    obtain ⟨hy4, h⟩ := h
    obtain ⟨k9, hk9⟩ := xW_get hy4
    refine va_get (D := (dC, dI)) (ci := 4) (v := .int (sA u2 3 y3)) (C := RX4) (T := TX4) (N := 3) hx hb hts uwX4 hown hK hP k9 hk9 rfl 1 (by decide) (hts _ wd_90) (fun _ h9 => h9) rfl dX0_worker_24 ?_
    refine W.widen (k := 1) (n := 6) (Nat.le_of_ble_eq_true rfl) (Nat.le_of_ble_eq_true rfl) (vx_ret ?_); exact gr_i (w := wX ad ca K) (u := u2) hx hb hr hlocks h hP hK hD hS dX0_worker_27

theorem dX0_count_0 : decode prog_1_method_13_code 0 = .ok (.iload_n 1, 1) := by decide +kernel
theorem dX0_count_1 : decode prog_1_method_13_code 1 = .ok (.iconst 0, 1) := by decide +kernel
theorem dX0_count_2 : decode prog_1_method_13_code 2 = .ok (.bipush 7, 2) := by decide +kernel
theorem dX0_count_4 : decode prog_1_method_13_code 4 = .ok (.invokestatic 72, 3) := by decide +kernel
theorem dX0_count_7 : decode prog_1_method_13_code 7 = .ok (.iload_n 1, 1) := by decide +kernel
theorem dX0_count_8 : decode prog_1_method_13_code 8 = .ok (.tableswitch 91 0 6 #[44, 49, 57, 65, 73, 81, 86], 44) := by decide +kernel
theorem dX0_count_52 : decode prog_1_method_13_code 52 = .ok (.aload_n 0, 1) := by decide +kernel
theorem dX0_count_53 : decode prog_1_method_13_code 53 = .ok (.getfield 36, 3) := by decide +kernel
theorem dX0_count_56 : decode prog_1_method_13_code 56 = .ok (.ireturn, 1) := by decide +kernel
theorem dX0_count_57 : decode prog_1_method_13_code 57 = .ok (.aload_n 0, 1) := by decide +kernel
theorem dX0_count_58 : decode prog_1_method_13_code 58 = .ok (.getfield 18, 3) := by decide +kernel
theorem dX0_count_61 : decode prog_1_method_13_code 61 = .ok (.getfield 214, 3) := by decide +kernel
theorem dX0_count_64 : decode prog_1_method_13_code 64 = .ok (.ireturn, 1) := by decide +kernel
theorem dX0_count_65 : decode prog_1_method_13_code 65 = .ok (.aload_n 0, 1) := by decide +kernel
theorem dX0_count_66 : decode prog_1_method_13_code 66 = .ok (.getfield 18, 3) := by decide +kernel
theorem dX0_count_69 : decode prog_1_method_13_code 69 = .ok (.invokevirtual 215, 3) := by decide +kernel
theorem dX0_count_72 : decode prog_1_method_13_code 72 = .ok (.ireturn, 1) := by decide +kernel
theorem dX0_count_73 : decode prog_1_method_13_code 73 = .ok (.aload_n 0, 1) := by decide +kernel
theorem dX0_count_74 : decode prog_1_method_13_code 74 = .ok (.getfield 25, 3) := by decide +kernel
theorem dX0_count_77 : decode prog_1_method_13_code 77 = .ok (.getfield 218, 3) := by decide +kernel
theorem dX0_count_80 : decode prog_1_method_13_code 80 = .ok (.ireturn, 1) := by decide +kernel
theorem dX0_count_81 : decode prog_1_method_13_code 81 = .ok (.aload_n 0, 1) := by decide +kernel
theorem dX0_count_82 : decode prog_1_method_13_code 82 = .ok (.getfield 32, 3) := by decide +kernel
theorem dX0_count_85 : decode prog_1_method_13_code 85 = .ok (.getfield 172, 3) := by decide +kernel
theorem dX0_count_88 : decode prog_1_method_13_code 88 = .ok (.ireturn, 1) := by decide +kernel
theorem dX0_count_89 : decode prog_1_method_13_code 89 = .ok (.aload_n 0, 1) := by decide +kernel
theorem dX0_count_90 : decode prog_1_method_13_code 90 = .ok (.getfield 40, 3) := by decide +kernel
theorem dX0_count_93 : decode prog_1_method_13_code 93 = .ok (.ireturn, 1) := by decide +kernel
theorem dX0_count_94 : decode prog_1_method_13_code 94 = .ok (.aload_n 0, 1) := by decide +kernel
theorem dX0_count_95 : decode prog_1_method_13_code 95 = .ok (.getfield 43, 3) := by decide +kernel
theorem dX0_count_98 : decode prog_1_method_13_code 98 = .ok (.ireturn, 1) := by decide +kernel
theorem dX0_count_99 : decode prog_1_method_13_code 99 = .ok (.aload_n 0, 1) := by decide +kernel
theorem dX0_count_100 : decode prog_1_method_13_code 100 = .ok (.getfield 18, 3) := by decide +kernel
theorem dX0_count_103 : decode prog_1_method_13_code 103 = .ok (.getfield 219, 3) := by decide +kernel
theorem dX0_count_106 : decode prog_1_method_13_code 106 = .ok (.ireturn, 1) := by decide +kernel
def wpX0_count (K : KX) (post : Int32 → gS → Prop) (px : String → gS → Prop) (u : gS) (p1 : Int32) : Prop :=
  wpX0_checkRange K (fun (u2 : gS) => ((p1 = 0 → (post (K.1 4) u2)) ∧ (¬ p1 = 0 → (((p1 = 1 → (post (sI u2 2) u2)) ∧ (¬ p1 = 1 → (((p1 = 2 → (wpX1_busy K (fun (r6 : Int32) (u7 : gS) => post r6 u7) u2)) ∧ (¬ p1 = 2 → (((p1 = 3 → (post (sI u2 4) u2)) ∧ (¬ p1 = 3 → (((p1 = 4 → (post (sI u2 6) u2)) ∧ (¬ p1 = 4 → (((p1 = 5 → (post (sI u2 0) u2)) ∧ (¬ p1 = 5 → (((p1 = 6 → (post (sI u2 1) u2)) ∧ (¬ p1 = 6 → (post (sI u2 3) u2)))))))))))))))))))))) px u p1 0 7

set_option maxHeartbeats 8000000 in
set_option maxRecDepth 100000 in
theorem cX0_count (l : Launch) (hl9 : l.stackTraces = false) (dC : Nat → ClassId) (dI : Nat → Nat → Nat) (ad : Nat → Nat) (ca : Nat → ClassId) (K : KX) (sz : Nat) (u : gS) (p1 : Int32) (post : Int32 → gS → Prop) (px : String → gS → Prop)  (h : wpX0_count K post px u p1) : vx_Met l ⟨"WorkHall", "count", "(I)I"⟩ (gw ⟨"WorkHall", "count", "(I)I"⟩ prog_1_method_13_code 2 (some .int)) ({ frames := 8, cells := 1, slots := 6, locals := 320 } : Room) (va_Pc [.ref (ad 0), .int p1] (gB (dC, dI) vwCl (xT ca) xE (wX ad ca K u) sz)) (va_Qi post (gAt (dC, dI) vwCl (xT ca) (wX ad ca K) (va_A (wX ad ca K u) sz)) (va_A (wX ad ca K u) sz)) (gX (dC, dI) vwCl (xT ca) (wX ad ca K) px (va_A (wX ad ca K u) sz)) 1 6 (va_A (wX ad ca K u) sz) := by
  refine vx_ofW (cc := prog_1_method_13_code) (maxL := 2) (ret := (some .int)) (by decide) rfl ?_
  intro p e s m args below meth c s₁ B hml hno hv
  obtain ⟨rfl, hsz, hP, hK, hD0, hE⟩ := hv
  have hx := B.exec
  have hb := B.bytes
  have hr := B.returns
  have hts : ∀ w ∈ gW, w.before _ s = true := fun w h9 => atoms_spec (ws := (gw ⟨"WorkHall", "count", "(I)I"⟩ prog_1_method_13_code 2 (some .int))) B.pre w (List.mem_cons_of_mem _ h9)
  have hown : s.vm.findClass RX0 = some m.cls := findClass_of_methodNamed B.named
  have hlocks := B.notSynchronized
  subst hsz
  have hD := hD0.self (sz := s.heap.size)
  generalize hAe : va_A (wX ad ca K u) s.heap.size = A at hD hE ⊢
  have hA : ∀ q : Nat, s.heap.size ≤ q → A q := fun q h => by rw [← hAe]; exact Or.inr h
  obtain ⟨H, hHe⟩ : ∃ z : Heap, z = s.heap := ⟨_, rfl⟩
  rw [← hHe]
  have hS : va_S A s.heap H [] := by rw [hHe]; exact va_S.rf
  have hP : va_P (dC, dI) vwCl (wX ad ca K u) H := by rw [hHe]; exact hP
  have hl := lv_entry ([.ref (ad 0), .int p1]) (n := 2) (Nat.le_of_ble_eq_true rfl)
  rw [lg_entry_eq]
  generalize (lg_sl ([.ref (ad 0), .int p1]) ++ List.replicate (2 - (lg_sl ([.ref (ad 0), .int p1])).length) Slot.unset).toArray = ls at hl ⊢
  have hl : lv_has ls 2 [(0, .ref (ad 0)), (1, .int p1)] := hl
  clear hAe
  refine lv_iload_n hx hb dX0_count_0 rfl (lv_at hl 1 rfl) ?_
  refine lv_iconst (v := 0) hx hb dX0_count_1 (by decide) ?_
  refine lv_bipush (v := 7) hx hb dX0_count_2 (by decide) ?_
  refine gxc_v (w := wX ad ca K) (u := u) (vx_runS (As := [.int p1, .int 0, .int 7]) (rest := []) ⟨hx, hb, hml, hown, hts⟩ (cX0_checkRange l hl9 dC dI ad ca K H.size u p1 0 7 _ _ h) (va_cwS 3 hts (gG_S wd_221 wd_222 wd_46 wd_223) rfl rfl rfl (by decide +kernel) ⟨Nat.le_of_ble_eq_true rfl, Nat.le_of_ble_eq_true rfl⟩) ⟨gB_blind xE_ok, gB_pre xE_ok hP hK hD hE hS hA⟩ rfl rfl hl.1 rfl (lv_room (Nat.le_of_ble_eq_true rfl)) dX0_count_4 ⟨Nat.le_of_ble_eq_true rfl, Nat.le_of_ble_eq_true rfl⟩) hD hS hA (fun E9 ce9 q9 u9 H locs h hP hD hS hce hcv hcl => gx_out hno hlocks h hP hK hD hS hce hcv hcl (Nat.le_of_ble_eq_true rfl) (Nat.le_of_ble_eq_true rfl)) (fun u2 H locs h hP hD hS => ?_)
  refine lv_iload_n hx hb dX0_count_7 rfl (lv_at hl 1 rfl) ?_
  by_cases c3 : p1 = 0
  · have h := h.1 c3
    have e18 : (p1).toInt = 0 := by rw [c3]; rfl
    refine lv_tableIn (off := 44) (tgt := 52) hx hb dX0_count_8 (by rw [e18]; decide) (by rw [e18]; decide) (by rw [e18]; rfl) (by decide) ?_
    refine lv_aload_n hx hb dX0_count_52 rfl (lv_at hl 0 rfl) ?_
    refine va_get (D := (dC, dI)) (ci := 0) (v := .int (K.1 4)) (C := RX0) (T := TX0) (N := 12) hx hb hts uwX0 hown hK hP 0 rfl rfl 8 (by decide) (hts _ wd_180) (fun _ h9 => h9) rfl dX0_count_53 ?_
    refine W.widen (k := 1) (n := 6) (Nat.le_of_ble_eq_true rfl) (Nat.le_of_ble_eq_true rfl) (vx_ret ?_); exact gr_i (w := wX ad ca K) (u := u2) hx hb hr hlocks h hP hK hD hS dX0_count_56
  · have h := h.2 c3
    by_cases c4 : p1 = 1
    · have h := h.1 c4
      have e17 : (p1).toInt = 1 := by rw [c4]; rfl
      refine lv_tableIn (off := 49) (tgt := 57) hx hb dX0_count_8 (by rw [e17]; decide) (by rw [e17]; decide) (by rw [e17]; rfl) (by decide) ?_
      refine lv_aload_n hx hb dX0_count_57 rfl (lv_at hl 0 rfl) ?_
      refine va_get (D := (dC, dI)) (ci := 0) (v := .ref (ad 2)) (C := RX0) (T := TX0) (N := 12) hx hb hts uwX0 hown hK hP 0 rfl rfl 5 (by decide) (hts _ wd_177) (fun _ h9 => h9) rfl dX0_count_58 ?_
      refine va_get (D := (dC, dI)) (ci := 1) (v := .int (sI u2 2)) (C := RX1) (T := TX1) (N := 3) hx hb hts uwX1 hown hK hP 2 rfl rfl 1 (by decide) (hts _ wd_102) (fun _ h9 => h9) rfl dX0_count_61 ?_
      refine W.widen (k := 1) (n := 6) (Nat.le_of_ble_eq_true rfl) (Nat.le_of_ble_eq_true rfl) (vx_ret ?_); exact gr_i (w := wX ad ca K) (u := u2) hx hb hr hlocks h hP hK hD hS dX0_count_64
    · have h := h.2 c4
      by_cases c5 : p1 = 2
      · have h := h.1 c5
        have e16 : (p1).toInt = 2 := by rw [c5]; rfl
        refine lv_tableIn (off := 57) (tgt := 65) hx hb dX0_count_8 (by rw [e16]; decide) (by rw [e16]; decide) (by rw [e16]; rfl) (by decide) ?_
        refine lv_aload_n hx hb dX0_count_65 rfl (lv_at hl 0 rfl) ?_
        refine va_get (D := (dC, dI)) (ci := 0) (v := .ref (ad 2)) (C := RX0) (T := TX0) (N := 12) hx hb hts uwX0 hown hK hP 0 rfl rfl 5 (by decide) (hts _ wd_177) (fun _ h9 => h9) rfl dX0_count_66 ?_
        refine gc_i (w := wX ad ca K) (u := u2) (va_runV (As := []) (rest := []) ⟨hx, hb, hml, hown, hts⟩ (cX1_busy l dC dI ad ca K H.size u2 _ h) (cwV 0 hts (gG_V wd_529 wd_530 wd_531 wd_47 wd_532) rfl rfl rfl (by decide +kernel) ⟨Nat.le_of_ble_eq_true rfl, Nat.le_of_ble_eq_true rfl⟩) ⟨gB_blind xE_ok, va_recv hK hP (ci := 1) (q0 := 2) rfl rfl, gB_pre xE_ok hP hK hD hE hS hA⟩ rfl rfl hl.1 rfl (lv_room (Nat.le_of_ble_eq_true rfl)) dX0_count_69 ⟨Nat.le_of_ble_eq_true rfl, Nat.le_of_ble_eq_true rfl⟩) hD hS hA (fun r6 u7 H locs h hP hD hS => ?_)
        refine W.widen (k := 1) (n := 6) (Nat.le_of_ble_eq_true rfl) (Nat.le_of_ble_eq_true rfl) (vx_ret ?_); exact gr_i (w := wX ad ca K) (u := u7) hx hb hr hlocks h hP hK hD hS dX0_count_72
      · have h := h.2 c5
        by_cases c8 : p1 = 3
        · have h := h.1 c8
          have e15 : (p1).toInt = 3 := by rw [c8]; rfl
          refine lv_tableIn (off := 65) (tgt := 73) hx hb dX0_count_8 (by rw [e15]; decide) (by rw [e15]; decide) (by rw [e15]; rfl) (by decide) ?_
          refine lv_aload_n hx hb dX0_count_73 rfl (lv_at hl 0 rfl) ?_
          refine va_get (D := (dC, dI)) (ci := 0) (v := .ref (ad 4)) (C := RX0) (T := TX0) (N := 12) hx hb hts uwX0 hown hK hP 0 rfl rfl 6 (by decide) (hts _ wd_178) (fun _ h9 => h9) rfl dX0_count_74 ?_
          refine va_get (D := (dC, dI)) (ci := 2) (v := .int (sI u2 4)) (C := RX2) (T := TX2) (N := 5) hx hb hts uwX2 hown hK hP 4 rfl rfl 2 (by decide) (hts _ wd_122) (fun _ h9 => h9) rfl dX0_count_77 ?_
          refine W.widen (k := 1) (n := 6) (Nat.le_of_ble_eq_true rfl) (Nat.le_of_ble_eq_true rfl) (vx_ret ?_); exact gr_i (w := wX ad ca K) (u := u2) hx hb hr hlocks h hP hK hD hS dX0_count_80
        · have h := h.2 c8
          by_cases c9 : p1 = 4
          · have h := h.1 c9
            have e14 : (p1).toInt = 4 := by rw [c9]; rfl
            refine lv_tableIn (off := 73) (tgt := 81) hx hb dX0_count_8 (by rw [e14]; decide) (by rw [e14]; decide) (by rw [e14]; rfl) (by decide) ?_
            refine lv_aload_n hx hb dX0_count_81 rfl (lv_at hl 0 rfl) ?_
            refine va_get (D := (dC, dI)) (ci := 0) (v := .ref (ad 7)) (C := RX0) (T := TX0) (N := 12) hx hb hts uwX0 hown hK hP 0 rfl rfl 7 (by decide) (hts _ wd_179) (fun _ h9 => h9) rfl dX0_count_82 ?_
            refine va_get (D := (dC, dI)) (ci := 3) (v := .int (sI u2 6)) (C := RX3) (T := TX3) (N := 4) hx hb hts uwX3 hown hK hP 7 rfl rfl 3 (by decide) (hts _ wd_153) (fun _ h9 => h9) rfl dX0_count_85 ?_
            refine W.widen (k := 1) (n := 6) (Nat.le_of_ble_eq_true rfl) (Nat.le_of_ble_eq_true rfl) (vx_ret ?_); exact gr_i (w := wX ad ca K) (u := u2) hx hb hr hlocks h hP hK hD hS dX0_count_88
          · have h := h.2 c9
            by_cases c10 : p1 = 5
            · have h := h.1 c10
              have e13 : (p1).toInt = 5 := by rw [c10]; rfl
              refine lv_tableIn (off := 81) (tgt := 89) hx hb dX0_count_8 (by rw [e13]; decide) (by rw [e13]; decide) (by rw [e13]; rfl) (by decide) ?_
              refine lv_aload_n hx hb dX0_count_89 rfl (lv_at hl 0 rfl) ?_
              refine va_get (D := (dC, dI)) (ci := 0) (v := .int (sI u2 0)) (C := RX0) (T := TX0) (N := 12) hx hb hts uwX0 hown hK hP 0 rfl rfl 9 (by decide) (hts _ wd_181) (fun _ h9 => h9) rfl dX0_count_90 ?_
              refine W.widen (k := 1) (n := 6) (Nat.le_of_ble_eq_true rfl) (Nat.le_of_ble_eq_true rfl) (vx_ret ?_); exact gr_i (w := wX ad ca K) (u := u2) hx hb hr hlocks h hP hK hD hS dX0_count_93
            · have h := h.2 c10
              by_cases c11 : p1 = 6
              · have h := h.1 c11
                have e12 : (p1).toInt = 6 := by rw [c11]; rfl
                refine lv_tableIn (off := 86) (tgt := 94) hx hb dX0_count_8 (by rw [e12]; decide) (by rw [e12]; decide) (by rw [e12]; rfl) (by decide) ?_
                refine lv_aload_n hx hb dX0_count_94 rfl (lv_at hl 0 rfl) ?_
                refine va_get (D := (dC, dI)) (ci := 0) (v := .int (sI u2 1)) (C := RX0) (T := TX0) (N := 12) hx hb hts uwX0 hown hK hP 0 rfl rfl 10 (by decide) (hts _ wd_182) (fun _ h9 => h9) rfl dX0_count_95 ?_
                refine W.widen (k := 1) (n := 6) (Nat.le_of_ble_eq_true rfl) (Nat.le_of_ble_eq_true rfl) (vx_ret ?_); exact gr_i (w := wX ad ca K) (u := u2) hx hb hr hlocks h hP hK hD hS dX0_count_98
              · have h := h.2 c11
                refine lv_tableOut (tgt := 99) hx hb dX0_count_8 (by have a0 := lv_neT (a := 0) c3 rfl; have a1 := lv_neT (a := 1) c4 rfl; have a2 := lv_neT (a := 2) c5 rfl; have a3 := lv_neT (a := 3) c8 rfl; have a4 := lv_neT (a := 4) c9 rfl; have a5 := lv_neT (a := 5) c10 rfl; have a6 := lv_neT (a := 6) c11 rfl; omega) (by decide) ?_
                refine lv_aload_n hx hb dX0_count_99 rfl (lv_at hl 0 rfl) ?_
                refine va_get (D := (dC, dI)) (ci := 0) (v := .ref (ad 2)) (C := RX0) (T := TX0) (N := 12) hx hb hts uwX0 hown hK hP 0 rfl rfl 5 (by decide) (hts _ wd_177) (fun _ h9 => h9) rfl dX0_count_100 ?_
                refine va_get (D := (dC, dI)) (ci := 1) (v := .int (sI u2 3)) (C := RX1) (T := TX1) (N := 3) hx hb hts uwX1 hown hK hP 2 rfl rfl 2 (by decide) (hts _ wd_104) (fun _ h9 => h9) rfl dX0_count_103 ?_
                refine W.widen (k := 1) (n := 6) (Nat.le_of_ble_eq_true rfl) (Nat.le_of_ble_eq_true rfl) (vx_ret ?_); exact gr_i (w := wX ad ca K) (u := u2) hx hb hr hlocks h hP hK hD hS dX0_count_106
end
section
theorem dX0_delay_0 : decode prog_1_method_14_code 0 = .ok (.aload_n 0, 1) := by decide +kernel
theorem dX0_delay_1 : decode prog_1_method_14_code 1 = .ok (.getfield 25, 3) := by decide +kernel
theorem dX0_delay_4 : decode prog_1_method_14_code 4 = .ok (.getfield 222, 3) := by decide +kernel
theorem dX0_delay_7 : decode prog_1_method_14_code 7 = .ok (.ifCond .ne 13, 3) := by decide +kernel
theorem dX0_delay_10 : decode prog_1_method_14_code 10 = .ok (.new 154, 3) := by decide +kernel
theorem dX0_delay_13 : decode prog_1_method_14_code 13 = .ok (.dup, 1) := by decide +kernel
theorem dX0_delay_14 : decode prog_1_method_14_code 14 = .ok (.ldc 225, 2) := by decide +kernel
theorem dX0_delay_16 : decode prog_1_method_14_code 16 = .ok (.invokespecial 158, 3) := by decide +kernel
theorem dX0_delay_19 : decode prog_1_method_14_code 19 = .ok (.athrow, 1) := by decide +kernel
theorem dX0_delay_20 : decode prog_1_method_14_code 20 = .ok (.aload_n 0, 1) := by decide +kernel
theorem dX0_delay_21 : decode prog_1_method_14_code 21 = .ok (.getfield 25, 3) := by decide +kernel
theorem dX0_delay_24 : decode prog_1_method_14_code 24 = .ok (.getfield 227, 3) := by decide +kernel
theorem dX0_delay_27 : decode prog_1_method_14_code 27 = .ok (.aload_n 0, 1) := by decide +kernel
theorem dX0_delay_28 : decode prog_1_method_14_code 28 = .ok (.getfield 25, 3) := by decide +kernel
theorem dX0_delay_31 : decode prog_1_method_14_code 31 = .ok (.getfield 222, 3) := by decide +kernel
theorem dX0_delay_34 : decode prog_1_method_14_code 34 = .ok (.i2d, 1) := by decide +kernel
theorem dX0_delay_35 : decode prog_1_method_14_code 35 = .ok (.ddiv, 1) := by decide +kernel
theorem dX0_delay_36 : decode prog_1_method_14_code 36 = .ok (.dreturn, 1) := by decide +kernel
def wpX0_delay (K : KX) (post : UInt64 → gS → Prop) (px : String → gS → Prop) (u : gS)  : Prop :=
  ((¬ (sI u 5) = 0 → (vf_n64 (FP.ddiv (sD u 1) (FP.i2d (sI u 5))) ∧ (post (FP.ddiv (sD u 1) (FP.i2d (sI u 5))) u))) ∧ ((sI u 5) = 0 → (px "java/lang/ArithmeticException" u)))

set_option maxHeartbeats 8000000 in
set_option maxRecDepth 100000 in
theorem cX0_delay (l : Launch) (hl9 : l.stackTraces = false) (dC : Nat → ClassId) (dI : Nat → Nat → Nat) (ad : Nat → Nat) (ca : Nat → ClassId) (K : KX) (sz : Nat) (u : gS)  (post : UInt64 → gS → Prop) (px : String → gS → Prop)  (h : wpX0_delay K post px u ) : vx_Met l ⟨"WorkHall", "delay", "()D"⟩ (gw ⟨"WorkHall", "delay", "()D"⟩ prog_1_method_14_code 1 (some .double)) ({ frames := 7, cells := 1, slots := 6, locals := 280 } : Room) (va_Pc [.ref (ad 0)] (gB (dC, dI) vwCl (xT ca) xE (wX ad ca K u) sz)) (va_Qd post (gAt (dC, dI) vwCl (xT ca) (wX ad ca K) (va_A (wX ad ca K u) sz)) (va_A (wX ad ca K u) sz)) (gX (dC, dI) vwCl (xT ca) (wX ad ca K) px (va_A (wX ad ca K u) sz)) 1 6 (va_A (wX ad ca K u) sz) := by
  refine vx_ofW (cc := prog_1_method_14_code) (maxL := 1) (ret := (some .double)) (by decide) rfl ?_
  intro p e s m args below meth c s₁ B hml hno hv
  obtain ⟨rfl, hsz, hP, hK, hD0, hE⟩ := hv
  have hx := B.exec
  have hb := B.bytes
  have hr := B.returns
  have hts : ∀ w ∈ gW, w.before _ s = true := fun w h9 => atoms_spec (ws := (gw ⟨"WorkHall", "delay", "()D"⟩ prog_1_method_14_code 1 (some .double))) B.pre w (List.mem_cons_of_mem _ h9)
  have hown : s.vm.findClass RX0 = some m.cls := findClass_of_methodNamed B.named
  have hlocks := B.notSynchronized
  subst hsz
  have hD := hD0.self (sz := s.heap.size)
  generalize hAe : va_A (wX ad ca K u) s.heap.size = A at hD hE ⊢
  have hA : ∀ q : Nat, s.heap.size ≤ q → A q := fun q h => by rw [← hAe]; exact Or.inr h
  obtain ⟨H, hHe⟩ : ∃ z : Heap, z = s.heap := ⟨_, rfl⟩
  rw [← hHe]
  have hS : va_S A s.heap H [] := by rw [hHe]; exact va_S.rf
  have hP : va_P (dC, dI) vwCl (wX ad ca K u) H := by rw [hHe]; exact hP
  have hl := lv_entry ([.ref (ad 0)]) (n := 1) (Nat.le_of_ble_eq_true rfl)
  rw [lg_entry_eq]
  generalize (lg_sl ([.ref (ad 0)]) ++ List.replicate (1 - (lg_sl ([.ref (ad 0)])).length) Slot.unset).toArray = ls at hl ⊢
  have hl : lv_has ls 1 [(0, .ref (ad 0))] := hl
  clear hAe
  refine lv_aload_n hx hb dX0_delay_0 rfl (lv_at hl 0 rfl) ?_
  refine va_get (D := (dC, dI)) (ci := 0) (v := .ref (ad 4)) (C := RX0) (T := TX0) (N := 12) hx hb hts uwX0 hown hK hP 0 rfl rfl 6 (by decide) (hts _ wd_178) (fun _ h9 => h9) rfl dX0_delay_1 ?_
  refine va_get (D := (dC, dI)) (ci := 2) (v := .int (sI u 5)) (C := RX2) (T := TX2) (N := 5) hx hb hts uwX2 hown hK hP 4 rfl rfl 3 (by decide) (hts _ wd_124) (fun _ h9 => h9) rfl dX0_delay_4 ?_
  refine lv_if_ne (tgt := 20) hx hb dX0_delay_7 (by decide) (fun c1 => ?_) (fun c1 => ?_)
  · have h := h.1 c1
    refine lv_aload_n hx hb dX0_delay_20 rfl (lv_at hl 0 rfl) ?_
    refine va_get (D := (dC, dI)) (ci := 0) (v := .ref (ad 4)) (C := RX0) (T := TX0) (N := 12) hx hb hts uwX0 hown hK hP 0 rfl rfl 6 (by decide) (hts _ wd_178) (fun _ h9 => h9) rfl dX0_delay_21 ?_
    refine va_get (D := (dC, dI)) (ci := 2) (v := .double (sD u 1)) (C := RX2) (T := TX2) (N := 5) hx hb hts uwX2 hown hK hP 4 rfl rfl 4 (by decide) (hts _ wd_126) (fun _ h9 => h9) rfl dX0_delay_24 ?_
    refine lv_aload_n hx hb dX0_delay_27 rfl (lv_at hl 0 rfl) ?_
    refine va_get (D := (dC, dI)) (ci := 0) (v := .ref (ad 4)) (C := RX0) (T := TX0) (N := 12) hx hb hts uwX0 hown hK hP 0 rfl rfl 6 (by decide) (hts _ wd_178) (fun _ h9 => h9) rfl dX0_delay_28 ?_
    refine va_get (D := (dC, dI)) (ci := 2) (v := .int (sI u 5)) (C := RX2) (T := TX2) (N := 5) hx hb hts uwX2 hown hK hP 4 rfl rfl 3 (by decide) (hts _ wd_124) (fun _ h9 => h9) rfl dX0_delay_31 ?_
    refine lv_i2d hx hb dX0_delay_34 ?_
    refine lv_ddiv hx hb dX0_delay_35 h.1 ?_
    have h := h.2
    refine W.widen (k := 1) (n := 6) (Nat.le_of_ble_eq_true rfl) (Nat.le_of_ble_eq_true rfl) (vx_ret ?_); exact gr_d (w := wX ad ca K) (u := u) hx hb hr hlocks h hP hK hD hS dX0_delay_36
  · have h := h.2 c1
    obtain ⟨sa9, hs9⟩ := xE_text hE 225 "no job was taken from the queue" (by decide +kernel); exact vx_throwS (names := xSup) hx hb hl9 hown (by decide +kernel) (by decide +kernel) (hts _ wd_556) (hts _ wd_61) hs9 (tw_aex hts (xE_face hE)) tg_aex (xE_U hE) (xE_N hE) hS (hl.1.trans hml.symm) dX0_delay_10 dX0_delay_13 dX0_delay_14 dX0_delay_16 dX0_delay_19 (fun x hx => (hno x hx).elim) (Nat.le_of_ble_eq_true rfl) (Nat.le_of_ble_eq_true rfl) (Nat.le_of_ble_eq_true rfl) (Nat.le_of_ble_eq_true rfl) hlocks (fun t ha hz hq => gx_thrown h hP hK hD hS ha hz hq) hS.2.2 (Nat.le_of_ble_eq_true rfl) (Nat.le_of_ble_eq_true rfl)

theorem dX0_due_0 : decode prog_1_method_15_code 0 = .ok (.aload_n 0, 1) := by decide +kernel
theorem dX0_due_1 : decode prog_1_method_15_code 1 = .ok (.getfield 32, 3) := by decide +kernel
theorem dX0_due_4 : decode prog_1_method_15_code 4 = .ok (.invokevirtual 185, 3) := by decide +kernel
theorem dX0_due_7 : decode prog_1_method_15_code 7 = .ok (.istore_n 1, 1) := by decide +kernel
theorem dX0_due_8 : decode prog_1_method_15_code 8 = .ok (.iload_n 1, 1) := by decide +kernel
theorem dX0_due_9 : decode prog_1_method_15_code 9 = .ok (.ifCond .ge 13, 3) := by decide +kernel
theorem dX0_due_12 : decode prog_1_method_15_code 12 = .ok (.new 146, 3) := by decide +kernel
theorem dX0_due_15 : decode prog_1_method_15_code 15 = .ok (.dup, 1) := by decide +kernel
theorem dX0_due_16 : decode prog_1_method_15_code 16 = .ok (.ldc 230, 2) := by decide +kernel
theorem dX0_due_18 : decode prog_1_method_15_code 18 = .ok (.invokespecial 150, 3) := by decide +kernel
theorem dX0_due_21 : decode prog_1_method_15_code 21 = .ok (.athrow, 1) := by decide +kernel
theorem dX0_due_22 : decode prog_1_method_15_code 22 = .ok (.aload_n 0, 1) := by decide +kernel
theorem dX0_due_23 : decode prog_1_method_15_code 23 = .ok (.getfield 32, 3) := by decide +kernel
theorem dX0_due_26 : decode prog_1_method_15_code 26 = .ok (.getfield 232, 3) := by decide +kernel
theorem dX0_due_29 : decode prog_1_method_15_code 29 = .ok (.iload_n 1, 1) := by decide +kernel
theorem dX0_due_30 : decode prog_1_method_15_code 30 = .ok (.daload, 1) := by decide +kernel
theorem dX0_due_31 : decode prog_1_method_15_code 31 = .ok (.dreturn, 1) := by decide +kernel
def wpX0_due (K : KX) (post : UInt64 → gS → Prop) (px : String → gS → Prop) (u : gS)  : Prop :=
  wpX3_firstPlace K (fun (r1 : Int32) (u2 : gS) => ((0 ≤ r1 → (vp_in r1 10 ∧ (post (sB u2 1 r1.toNatClampNeg) u2))) ∧ (¬ 0 ≤ r1 → (px "java/util/NoSuchElementException" u2)))) u

set_option maxHeartbeats 8000000 in
set_option maxRecDepth 100000 in
theorem cX0_due (l : Launch) (hl9 : l.stackTraces = false) (dC : Nat → ClassId) (dI : Nat → Nat → Nat) (ad : Nat → Nat) (ca : Nat → ClassId) (K : KX) (sz : Nat) (u : gS)  (post : UInt64 → gS → Prop) (px : String → gS → Prop)  (h : wpX0_due K post px u ) : vx_Met l ⟨"WorkHall", "due", "()D"⟩ (gw ⟨"WorkHall", "due", "()D"⟩ prog_1_method_15_code 2 (some .double)) ({ frames := 7, cells := 1, slots := 6, locals := 280 } : Room) (va_Pc [.ref (ad 0)] (gB (dC, dI) vwCl (xT ca) xE (wX ad ca K u) sz)) (va_Qd post (gAt (dC, dI) vwCl (xT ca) (wX ad ca K) (va_A (wX ad ca K u) sz)) (va_A (wX ad ca K u) sz)) (gX (dC, dI) vwCl (xT ca) (wX ad ca K) px (va_A (wX ad ca K u) sz)) 1 6 (va_A (wX ad ca K u) sz) := by
  refine vx_ofW (cc := prog_1_method_15_code) (maxL := 2) (ret := (some .double)) (by decide) rfl ?_
  intro p e s m args below meth c s₁ B hml hno hv
  obtain ⟨rfl, hsz, hP, hK, hD0, hE⟩ := hv
  have hx := B.exec
  have hb := B.bytes
  have hr := B.returns
  have hts : ∀ w ∈ gW, w.before _ s = true := fun w h9 => atoms_spec (ws := (gw ⟨"WorkHall", "due", "()D"⟩ prog_1_method_15_code 2 (some .double))) B.pre w (List.mem_cons_of_mem _ h9)
  have hown : s.vm.findClass RX0 = some m.cls := findClass_of_methodNamed B.named
  have hlocks := B.notSynchronized
  subst hsz
  have hD := hD0.self (sz := s.heap.size)
  generalize hAe : va_A (wX ad ca K u) s.heap.size = A at hD hE ⊢
  have hA : ∀ q : Nat, s.heap.size ≤ q → A q := fun q h => by rw [← hAe]; exact Or.inr h
  obtain ⟨H, hHe⟩ : ∃ z : Heap, z = s.heap := ⟨_, rfl⟩
  rw [← hHe]
  have hS : va_S A s.heap H [] := by rw [hHe]; exact va_S.rf
  have hP : va_P (dC, dI) vwCl (wX ad ca K u) H := by rw [hHe]; exact hP
  have hl := lv_entry ([.ref (ad 0)]) (n := 2) (Nat.le_of_ble_eq_true rfl)
  rw [lg_entry_eq]
  generalize (lg_sl ([.ref (ad 0)]) ++ List.replicate (2 - (lg_sl ([.ref (ad 0)])).length) Slot.unset).toArray = ls at hl ⊢
  have hl : lv_has ls 2 [(0, .ref (ad 0))] := hl
  clear hAe
  refine lv_aload_n hx hb dX0_due_0 rfl (lv_at hl 0 rfl) ?_
  refine va_get (D := (dC, dI)) (ci := 0) (v := .ref (ad 7)) (C := RX0) (T := TX0) (N := 12) hx hb hts uwX0 hown hK hP 0 rfl rfl 7 (by decide) (hts _ wd_179) (fun _ h9 => h9) rfl dX0_due_1 ?_
  refine gc_i (w := wX ad ca K) (u := u) (va_runV (As := []) (rest := []) ⟨hx, hb, hml, hown, hts⟩ (cX3_firstPlace l dC dI ad ca K H.size u _ h) (cwV 0 hts (gG_V wd_620 wd_617 wd_618 wd_50 wd_619) rfl rfl rfl (by decide +kernel) ⟨Nat.le_of_ble_eq_true rfl, Nat.le_of_ble_eq_true rfl⟩) ⟨gB_blind xE_ok, va_recv hK hP (ci := 3) (q0 := 7) rfl rfl, gB_pre xE_ok hP hK hD hE hS hA⟩ rfl rfl hl.1 rfl (lv_room (Nat.le_of_ble_eq_true rfl)) dX0_due_4 ⟨Nat.le_of_ble_eq_true rfl, Nat.le_of_ble_eq_true rfl⟩) hD hS hA (fun r1 u2 H locs h hP hD hS => ?_)
  refine lv_istore_n (lv' := [(1, .int r1), (0, .ref (ad 0))]) hx hb dX0_due_7 rfl hl (by decide) rfl (fun ls hl => ?_)
  refine lv_iload_n hx hb dX0_due_8 rfl (lv_at hl 0 rfl) ?_
  refine lv_if_ge (tgt := 22) hx hb dX0_due_9 (by decide) (fun c3 => ?_) (fun c3 => ?_)
  · have h := h.1 c3
    refine lv_aload_n hx hb dX0_due_22 rfl (lv_at hl 1 rfl) ?_
    refine va_get (D := (dC, dI)) (ci := 0) (v := .ref (ad 7)) (C := RX0) (T := TX0) (N := 12) hx hb hts uwX0 hown hK hP 0 rfl rfl 7 (by decide) (hts _ wd_179) (fun _ h9 => h9) rfl dX0_due_23 ?_
    refine va_get (D := (dC, dI)) (ci := 3) (v := .ref (ad 9)) (C := RX3) (T := TX3) (N := 4) hx hb hts uwX3 hown hK hP 7 rfl rfl 1 (by decide) (hts _ wd_149) (fun _ h9 => h9) rfl dX0_due_26 ?_
    refine lv_iload_n hx hb dX0_due_29 rfl (lv_at hl 0 rfl) ?_
    refine va_dald hx hb hK hP 9 2 rfl rfl h.1 dX0_due_30 ?_
    have h := h.2
    refine W.widen (k := 1) (n := 6) (Nat.le_of_ble_eq_true rfl) (Nat.le_of_ble_eq_true rfl) (vx_ret ?_); exact gr_d (w := wX ad ca K) (u := u2) hx hb hr hlocks h hP hK hD hS dX0_due_31
  · have h := h.2 c3
    obtain ⟨sa9, hs9⟩ := xE_text hE 230 "the clock is empty" (by decide +kernel); exact vn_throwS (r := xSup1) (Y := "java/lang/RuntimeException") hx hb hl9 dN_0 dN_1 dN_2 dN_5 hown (by decide +kernel) (by decide +kernel) (by decide +kernel) (hts _ wd_372) (hts _ wd_59) hs9 (tw_nse hts (xE_face hE)) tg_nse (xE_U hE) (xE_N hE) hS (hl.1.trans hml.symm) dX0_due_12 dX0_due_15 dX0_due_16 dX0_due_18 dX0_due_21 (fun x hx => (hno x hx).elim) (Nat.le_of_ble_eq_true rfl) (Nat.le_of_ble_eq_true rfl) (Nat.le_of_ble_eq_true rfl) (Nat.le_of_ble_eq_true rfl) hlocks (fun t ha hz hq => gx_thrown h hP hK hD hS ha hz hq) hS.2.2 (Nat.le_of_ble_eq_true rfl) (Nat.le_of_ble_eq_true rfl)
end
section
theorem wd_3 : Cond.selects "WorkHall" ⟨"WorkHall", "admit", "(LWorkHall$Job;I)V"⟩ ⟨"WorkHall", "admit", "(LWorkHall$Job;I)V"⟩ ∈ gW := gw_mem 3 (by decide +kernel) rfl
theorem wd_4 : Cond.selects "WorkHall" ⟨"WorkHall", "turnAway", "(LWorkHall$Job;I)V"⟩ ⟨"WorkHall", "turnAway", "(LWorkHall$Job;I)V"⟩ ∈ gW := gw_mem 4 (by decide +kernel) rfl
theorem wd_5 : Cond.selects "WorkHall" ⟨"WorkHall", "performAndEnd", "(LWorkHall$Job;I)V"⟩ ⟨"WorkHall", "performAndEnd", "(LWorkHall$Job;I)V"⟩ ∈ gW := gw_mem 5 (by decide +kernel) rfl
theorem wd_6 : Cond.selects "WorkHall" ⟨"WorkHall", "sum", "(LWorkHall$Job;)V"⟩ ⟨"WorkHall", "sum", "(LWorkHall$Job;)V"⟩ ∈ gW := gw_mem 6 (by decide +kernel) rfl
theorem wd_7 : Cond.selects "WorkHall" ⟨"WorkHall", "fork", "(LWorkHall$Job;I)V"⟩ ⟨"WorkHall", "fork", "(LWorkHall$Job;I)V"⟩ ∈ gW := gw_mem 7 (by decide +kernel) rfl
theorem wd_8 : Cond.selects "WorkHall" ⟨"WorkHall", "runStep", "()V"⟩ ⟨"WorkHall", "runStep", "()V"⟩ ∈ gW := gw_mem 8 (by decide +kernel) rfl
theorem wd_9 : Cond.selects "WorkHall" ⟨"WorkHall", "staysAfterTurn", "(I)Z"⟩ ⟨"WorkHall", "staysAfterTurn", "(I)Z"⟩ ∈ gW := gw_mem 9 (by decide +kernel) rfl
theorem wd_10 : Cond.selects "WorkHall" ⟨"WorkHall", "replaceWorker", "(I)V"⟩ ⟨"WorkHall", "replaceWorker", "(I)V"⟩ ∈ gW := gw_mem 10 (by decide +kernel) rfl
theorem wd_13 : Cond.selects "WorkHall" ⟨"WorkHall", "fire", "(I)V"⟩ ⟨"WorkHall", "fire", "(I)V"⟩ ∈ gW := gw_mem 13 (by decide +kernel) rfl
theorem wd_14 : Cond.selects "WorkHall" ⟨"WorkHall", "dismissLongIdle", "()V"⟩ ⟨"WorkHall", "dismissLongIdle", "()V"⟩ ∈ gW := gw_mem 14 (by decide +kernel) rfl
theorem wd_147 : Cond.fieldLink "WorkHall" 312 "WorkHall$Timetable" "jobs" "[LWorkHall$Job;" ∈ gW := gw_mem 147 (by decide +kernel) rfl
theorem wd_151 : Cond.fieldLink "WorkHall" 313 "WorkHall$Timetable" "periods" "[D" ∈ gW := gw_mem 151 (by decide +kernel) rfl
theorem wd_173 : Cond.fieldLink "WorkHall" 63 "WorkHall" "most" "I" ∈ gW := gw_mem 173 (by decide +kernel) rfl
theorem wd_174 : Cond.fieldLink "WorkHall" 66 "WorkHall" "room" "I" ∈ gW := gw_mem 174 (by decide +kernel) rfl
theorem wd_175 : Cond.fieldLink "WorkHall" 69 "WorkHall" "policy" "I" ∈ gW := gw_mem 175 (by decide +kernel) rfl
theorem wd_389 : Cond.methodLink "WorkHall" 95 ⟨"WorkHall", "admit", "(LWorkHall$Job;I)V"⟩ ∈ gW := gw_mem 389 (by decide +kernel) rfl
theorem wd_391 : Cond.instanceMethod ⟨"WorkHall", "admit", "(LWorkHall$Job;I)V"⟩ ∈ gW := gw_mem 391 (by decide +kernel) rfl
theorem wd_392 : Cond.code ⟨"WorkHall", "admit", "(LWorkHall$Job;I)V"⟩ prog_1_method_22_code 4 none ∈ gW := gw_mem 392 (by decide +kernel) rfl
theorem wd_393 : Cond.methodLink "WorkHall" 246 ⟨"WorkHall$Crew", "firstIdle", "()LWorkHall$Worker;"⟩ ∈ gW := gw_mem 393 (by decide +kernel) rfl
theorem wd_394 : Cond.instanceMethod ⟨"WorkHall$Crew", "firstIdle", "()LWorkHall$Worker;"⟩ ∈ gW := gw_mem 394 (by decide +kernel) rfl
theorem wd_395 : Cond.selects "WorkHall$Crew" ⟨"WorkHall$Crew", "firstIdle", "()LWorkHall$Worker;"⟩ ⟨"WorkHall$Crew", "firstIdle", "()LWorkHall$Worker;"⟩ ∈ gW := gw_mem 395 (by decide +kernel) rfl
theorem wd_396 : Cond.code ⟨"WorkHall$Crew", "firstIdle", "()LWorkHall$Worker;"⟩ prog_2_method_3_code 1 (some (.object "WorkHall$Worker")) ∈ gW := gw_mem 396 (by decide +kernel) rfl
theorem wd_415 : Cond.methodLink "WorkHall" 257 ⟨"WorkHall$Line", "add", "(LWorkHall$Job;D)V"⟩ ∈ gW := gw_mem 415 (by decide +kernel) rfl
theorem wd_416 : Cond.instanceMethod ⟨"WorkHall$Line", "add", "(LWorkHall$Job;D)V"⟩ ∈ gW := gw_mem 416 (by decide +kernel) rfl
theorem wd_417 : Cond.selects "WorkHall$Line" ⟨"WorkHall$Line", "add", "(LWorkHall$Job;D)V"⟩ ⟨"WorkHall$Line", "add", "(LWorkHall$Job;D)V"⟩ ∈ gW := gw_mem 417 (by decide +kernel) rfl
theorem wd_418 : Cond.code ⟨"WorkHall$Line", "add", "(LWorkHall$Job;D)V"⟩ prog_4_method_3_code 4 none ∈ gW := gw_mem 418 (by decide +kernel) rfl
theorem wd_419 : Cond.methodLink "WorkHall" 261 ⟨"WorkHall", "turnAway", "(LWorkHall$Job;I)V"⟩ ∈ gW := gw_mem 419 (by decide +kernel) rfl
theorem wd_421 : Cond.instanceMethod ⟨"WorkHall", "turnAway", "(LWorkHall$Job;I)V"⟩ ∈ gW := gw_mem 421 (by decide +kernel) rfl
theorem wd_422 : Cond.code ⟨"WorkHall", "turnAway", "(LWorkHall$Job;I)V"⟩ prog_1_method_23_code 4 none ∈ gW := gw_mem 422 (by decide +kernel) rfl
theorem wd_427 : Cond.methodLink "WorkHall" 264 ⟨"WorkHall", "performAndEnd", "(LWorkHall$Job;I)V"⟩ ∈ gW := gw_mem 427 (by decide +kernel) rfl
theorem wd_429 : Cond.instanceMethod ⟨"WorkHall", "performAndEnd", "(LWorkHall$Job;I)V"⟩ ∈ gW := gw_mem 429 (by decide +kernel) rfl
theorem wd_430 : Cond.code ⟨"WorkHall", "performAndEnd", "(LWorkHall$Job;I)V"⟩ prog_1_method_24_code 4 none ∈ gW := gw_mem 430 (by decide +kernel) rfl
theorem wd_435 : Cond.methodLink "WorkHall" 273 ⟨"WorkHall$Job", "divide", "()V"⟩ ∈ gW := gw_mem 435 (by decide +kernel) rfl
theorem wd_436 : Cond.instanceMethod ⟨"WorkHall$Job", "divide", "()V"⟩ ∈ gW := gw_mem 436 (by decide +kernel) rfl
theorem wd_437 : Cond.selects "WorkHall$Job" ⟨"WorkHall$Job", "divide", "()V"⟩ ⟨"WorkHall$Job", "divide", "()V"⟩ ∈ gW := gw_mem 437 (by decide +kernel) rfl
theorem wd_438 : Cond.code ⟨"WorkHall$Job", "divide", "()V"⟩ prog_3_method_5_code 1 none ∈ gW := gw_mem 438 (by decide +kernel) rfl
theorem wd_444 : Cond.methodLink "WorkHall" 276 ⟨"WorkHall$Job", "pick", "()V"⟩ ∈ gW := gw_mem 444 (by decide +kernel) rfl
theorem wd_445 : Cond.instanceMethod ⟨"WorkHall$Job", "pick", "()V"⟩ ∈ gW := gw_mem 445 (by decide +kernel) rfl
theorem wd_446 : Cond.selects "WorkHall$Job" ⟨"WorkHall$Job", "pick", "()V"⟩ ⟨"WorkHall$Job", "pick", "()V"⟩ ∈ gW := gw_mem 446 (by decide +kernel) rfl
theorem wd_447 : Cond.code ⟨"WorkHall$Job", "pick", "()V"⟩ prog_3_method_6_code 1 none ∈ gW := gw_mem 447 (by decide +kernel) rfl
theorem wd_450 : Cond.methodLink "WorkHall" 279 ⟨"WorkHall", "sum", "(LWorkHall$Job;)V"⟩ ∈ gW := gw_mem 450 (by decide +kernel) rfl
theorem wd_452 : Cond.instanceMethod ⟨"WorkHall", "sum", "(LWorkHall$Job;)V"⟩ ∈ gW := gw_mem 452 (by decide +kernel) rfl
theorem wd_453 : Cond.code ⟨"WorkHall", "sum", "(LWorkHall$Job;)V"⟩ prog_1_method_25_code 4 none ∈ gW := gw_mem 453 (by decide +kernel) rfl
theorem wd_455 : Cond.methodLink "WorkHall" 282 ⟨"WorkHall", "fork", "(LWorkHall$Job;I)V"⟩ ∈ gW := gw_mem 455 (by decide +kernel) rfl
theorem wd_457 : Cond.instanceMethod ⟨"WorkHall", "fork", "(LWorkHall$Job;I)V"⟩ ∈ gW := gw_mem 457 (by decide +kernel) rfl
theorem wd_458 : Cond.code ⟨"WorkHall", "fork", "(LWorkHall$Job;I)V"⟩ prog_1_method_26_code 4 none ∈ gW := gw_mem 458 (by decide +kernel) rfl
theorem wd_495 : Cond.methodLink "WorkHall" 119 ⟨"WorkHall", "runStep", "()V"⟩ ∈ gW := gw_mem 495 (by decide +kernel) rfl
theorem wd_497 : Cond.instanceMethod ⟨"WorkHall", "runStep", "()V"⟩ ∈ gW := gw_mem 497 (by decide +kernel) rfl
theorem wd_498 : Cond.code ⟨"WorkHall", "runStep", "()V"⟩ prog_1_method_27_code 4 none ∈ gW := gw_mem 498 (by decide +kernel) rfl
theorem wd_499 : Cond.methodLink "WorkHall" 291 ⟨"WorkHall", "staysAfterTurn", "(I)Z"⟩ ∈ gW := gw_mem 499 (by decide +kernel) rfl
theorem wd_501 : Cond.instanceMethod ⟨"WorkHall", "staysAfterTurn", "(I)Z"⟩ ∈ gW := gw_mem 501 (by decide +kernel) rfl
theorem wd_502 : Cond.code ⟨"WorkHall", "staysAfterTurn", "(I)Z"⟩ prog_1_method_28_code 4 (some .boolean) ∈ gW := gw_mem 502 (by decide +kernel) rfl
theorem wd_504 : Cond.methodLink "WorkHall" 298 ⟨"WorkHall", "replaceWorker", "(I)V"⟩ ∈ gW := gw_mem 504 (by decide +kernel) rfl
theorem wd_506 : Cond.instanceMethod ⟨"WorkHall", "replaceWorker", "(I)V"⟩ ∈ gW := gw_mem 506 (by decide +kernel) rfl
theorem wd_507 : Cond.code ⟨"WorkHall", "replaceWorker", "(I)V"⟩ prog_1_method_29_code 3 none ∈ gW := gw_mem 507 (by decide +kernel) rfl
theorem wd_612 : Cond.methodLink "WorkHall" 181 ⟨"WorkHall$Timetable", "hasEntryUpTo", "(D)Z"⟩ ∈ gW := gw_mem 612 (by decide +kernel) rfl
theorem wd_613 : Cond.instanceMethod ⟨"WorkHall$Timetable", "hasEntryUpTo", "(D)Z"⟩ ∈ gW := gw_mem 613 (by decide +kernel) rfl
theorem wd_614 : Cond.selects "WorkHall$Timetable" ⟨"WorkHall$Timetable", "hasEntryUpTo", "(D)Z"⟩ ⟨"WorkHall$Timetable", "hasEntryUpTo", "(D)Z"⟩ ∈ gW := gw_mem 614 (by decide +kernel) rfl
theorem wd_615 : Cond.code ⟨"WorkHall$Timetable", "hasEntryUpTo", "(D)Z"⟩ prog_5_method_4_code 4 (some .boolean) ∈ gW := gw_mem 615 (by decide +kernel) rfl
theorem wd_621 : Cond.methodLink "WorkHall" 188 ⟨"WorkHall", "fire", "(I)V"⟩ ∈ gW := gw_mem 621 (by decide +kernel) rfl
theorem wd_623 : Cond.instanceMethod ⟨"WorkHall", "fire", "(I)V"⟩ ∈ gW := gw_mem 623 (by decide +kernel) rfl
theorem wd_624 : Cond.code ⟨"WorkHall", "fire", "(I)V"⟩ prog_1_method_31_code 7 none ∈ gW := gw_mem 624 (by decide +kernel) rfl
theorem wd_625 : Cond.methodLink "WorkHall" 316 ⟨"WorkHall$Timetable", "removeAt", "(I)V"⟩ ∈ gW := gw_mem 625 (by decide +kernel) rfl
theorem wd_626 : Cond.instanceMethod ⟨"WorkHall$Timetable", "removeAt", "(I)V"⟩ ∈ gW := gw_mem 626 (by decide +kernel) rfl
theorem wd_627 : Cond.selects "WorkHall$Timetable" ⟨"WorkHall$Timetable", "removeAt", "(I)V"⟩ ⟨"WorkHall$Timetable", "removeAt", "(I)V"⟩ ∈ gW := gw_mem 627 (by decide +kernel) rfl
theorem wd_628 : Cond.code ⟨"WorkHall$Timetable", "removeAt", "(I)V"⟩ prog_5_method_5_code 3 none ∈ gW := gw_mem 628 (by decide +kernel) rfl
theorem wd_629 : Cond.methodLink "WorkHall" 192 ⟨"WorkHall", "dismissLongIdle", "()V"⟩ ∈ gW := gw_mem 629 (by decide +kernel) rfl
theorem wd_631 : Cond.instanceMethod ⟨"WorkHall", "dismissLongIdle", "()V"⟩ ∈ gW := gw_mem 631 (by decide +kernel) rfl
theorem wd_632 : Cond.code ⟨"WorkHall", "dismissLongIdle", "()V"⟩ prog_1_method_32_code 5 none ∈ gW := gw_mem 632 (by decide +kernel) rfl
end
section
def rmN (k : Nat) : Room := { frames := k, cells := 0, slots := 0, locals := 40 * k }
theorem rmN_le {w : List Cond} {k k' maxL : Nat} (h : k + 1 ≤ k') (hm : maxL ≤ 21) : (rmN k).frames + 1 ≤ (headSpec w (rmN k')).room.frames ∧ 8 + (maxL + 11) + (rmN k).locals ≤ (headSpec w (rmN k')).room.locals := ⟨h, by show 8 + (maxL + 11) + 40 * k ≤ 40 * k'; omega⟩
theorem dX0_fork_0 : decode prog_1_method_26_code 0 = .ok (.aload_n 0, 1) := by decide +kernel
theorem dX0_fork_1 : decode prog_1_method_26_code 1 = .ok (.aload_n 1, 1) := by decide +kernel
theorem dX0_fork_2 : decode prog_1_method_26_code 2 = .ok (.getfield 267, 3) := by decide +kernel
theorem dX0_fork_5 : decode prog_1_method_26_code 5 = .ok (.invokevirtual 241, 3) := by decide +kernel
theorem dX0_fork_8 : decode prog_1_method_26_code 8 = .ok (.astore_n 3, 1) := by decide +kernel
theorem dX0_fork_9 : decode prog_1_method_26_code 9 = .ok (.aload_n 3, 1) := by decide +kernel
theorem dX0_fork_10 : decode prog_1_method_26_code 10 = .ok (.ifnull 10, 3) := by decide +kernel
theorem dX0_fork_13 : decode prog_1_method_26_code 13 = .ok (.aload_n 3, 1) := by decide +kernel
theorem dX0_fork_14 : decode prog_1_method_26_code 14 = .ok (.getfield 90, 3) := by decide +kernel
theorem dX0_fork_17 : decode prog_1_method_26_code 17 = .ok (.ifCond .eq 9, 3) := by decide +kernel
theorem dX0_fork_20 : decode prog_1_method_26_code 20 = .ok (.aload_n 1, 1) := by decide +kernel
theorem dX0_fork_21 : decode prog_1_method_26_code 21 = .ok (.iconst 4, 1) := by decide +kernel
theorem dX0_fork_22 : decode prog_1_method_26_code 22 = .ok (.invokevirtual 285, 3) := by decide +kernel
theorem dX0_fork_25 : decode prog_1_method_26_code 25 = .ok (.return_, 1) := by decide +kernel
theorem dX0_fork_26 : decode prog_1_method_26_code 26 = .ok (.aload_n 0, 1) := by decide +kernel
theorem dX0_fork_27 : decode prog_1_method_26_code 27 = .ok (.aload_n 3, 1) := by decide +kernel
theorem dX0_fork_28 : decode prog_1_method_26_code 28 = .ok (.iload_n 2, 1) := by decide +kernel
theorem dX0_fork_29 : decode prog_1_method_26_code 29 = .ok (.iconst 1, 1) := by decide +kernel
theorem dX0_fork_30 : decode prog_1_method_26_code 30 = .ok (.iadd, 1) := by decide +kernel
theorem dX0_fork_31 : decode prog_1_method_26_code 31 = .ok (.invokevirtual 95, 3) := by decide +kernel
theorem dX0_fork_34 : decode prog_1_method_26_code 34 = .ok (.aload_n 3, 1) := by decide +kernel
theorem dX0_fork_35 : decode prog_1_method_26_code 35 = .ok (.getfield 90, 3) := by decide +kernel
theorem dX0_fork_38 : decode prog_1_method_26_code 38 = .ok (.bipush 6, 2) := by decide +kernel
theorem dX0_fork_40 : decode prog_1_method_26_code 40 = .ok (.if_icmp .ne 11, 3) := by decide +kernel
theorem dX0_fork_43 : decode prog_1_method_26_code 43 = .ok (.aload_n 1, 1) := by decide +kernel
theorem dX0_fork_44 : decode prog_1_method_26_code 44 = .ok (.iconst 4, 1) := by decide +kernel
theorem dX0_fork_45 : decode prog_1_method_26_code 45 = .ok (.invokevirtual 285, 3) := by decide +kernel
theorem dX0_fork_48 : decode prog_1_method_26_code 48 = .ok (.goto 11, 3) := by decide +kernel
theorem dX0_fork_51 : decode prog_1_method_26_code 51 = .ok (.aload_n 1, 1) := by decide +kernel
theorem dX0_fork_52 : decode prog_1_method_26_code 52 = .ok (.aload_n 3, 1) := by decide +kernel
theorem dX0_fork_53 : decode prog_1_method_26_code 53 = .ok (.getfield 90, 3) := by decide +kernel
theorem dX0_fork_56 : decode prog_1_method_26_code 56 = .ok (.invokevirtual 270, 3) := by decide +kernel
theorem dX0_fork_59 : decode prog_1_method_26_code 59 = .ok (.return_, 1) := by decide +kernel
def wpX0_fork (K : KX) (adm : KX → (gS → Prop) → gS → Nat → Int32 → Prop) (post : gS → Prop) (u : gS) (p1 : Nat) (p2 : Int32) : Prop :=
  wpX0_find K (fun (r1 : Option Nat) (u2 : gS) => ((r1 = none → (wpX5_fail K (fun (u5 : gS) => post u5) u2 p1 4)) ∧ (∀ y3 : Nat, r1 = some y3 → (y3 ∈ K.2.2.1 ∧ ((((sA u2 0 y3) = 0 → (adm K (fun (u9 : gS) => ((¬ (sA u9 0 y3) = 6 → (wpX5_succeed K (fun (u12 : gS) => post u12) u9 p1 (sA u9 0 y3))) ∧ ((sA u9 0 y3) = 6 → (wpX5_fail K (fun (u14 : gS) => post u14) u9 p1 4)))) u2 y3 (p2 + 1))) ∧ (¬ (sA u2 0 y3) = 0 → (wpX5_fail K (fun (u16 : gS) => post u16) u2 p1 4)))))))) u (K.2.2.2.1 p1 2)

set_option maxHeartbeats 8000000 in
set_option maxRecDepth 100000 in
theorem cX0_fork (l : Launch) (dC : Nat → ClassId) (dI : Nat → Nat → Nat) (ad : Nat → Nat) (ca : Nat → ClassId) (K : KX) (n : Nat) (adm : KX → (gS → Prop) → gS → Nat → Int32 → Prop) (sz : Nat) (u : gS) (p1 : Nat) (p2 : Int32) (post : gS → Prop) (hp1 : p1 ∈ K.2.2.1) (h : wpX0_fork K adm post u p1 p2) (hadm : ∀ (sz : Nat) (u : gS) (p1 : Nat) (p2 : Int32) (post : gS → Prop), p1 ∈ K.2.2.1 → adm K post u p1 p2 → Met l ⟨"WorkHall", "admit", "(LWorkHall$Job;I)V"⟩ (gw ⟨"WorkHall", "admit", "(LWorkHall$Job;I)V"⟩ prog_1_method_22_code 4 none) (rmN (4 * n + 4)) (va_Pc [.ref (ad 0), .ref p1, .int p2] (gB (dC, dI) vwCl (xT ca) xE (wX ad ca K u) sz)) (va_Qv post (gAt (dC, dI) vwCl (xT ca) (wX ad ca K) (va_A (wX ad ca K u) sz)) (va_A (wX ad ca K u) sz)) 0 0 (va_A (wX ad ca K u) sz)) : Met l ⟨"WorkHall", "fork", "(LWorkHall$Job;I)V"⟩ (gw ⟨"WorkHall", "fork", "(LWorkHall$Job;I)V"⟩ prog_1_method_26_code 4 none) (rmN (4 * n + 5)) (va_Pc [.ref (ad 0), .ref p1, .int p2] (gB (dC, dI) vwCl (xT ca) xE (wX ad ca K u) sz)) (va_Qv post (gAt (dC, dI) vwCl (xT ca) (wX ad ca K) (va_A (wX ad ca K u) sz)) (va_A (wX ad ca K u) sz)) 0 0 (va_A (wX ad ca K u) sz) := by
  refine Met.ofW (cc := prog_1_method_26_code) (maxL := 4) (ret := none) (by decide) rfl ?_
  intro p e s m args below meth c s₁ B hml hv
  obtain ⟨rfl, hsz, hP, hK, hD0, hE⟩ := hv
  have hx := B.exec
  have hb := B.bytes
  have hr := B.returns
  have hts : ∀ w ∈ gW, w.before _ s = true := fun w h9 => atoms_spec (ws := (gw ⟨"WorkHall", "fork", "(LWorkHall$Job;I)V"⟩ prog_1_method_26_code 4 none)) B.pre w (List.mem_cons_of_mem _ h9)
  have hown : s.vm.findClass RX0 = some m.cls := findClass_of_methodNamed B.named
  have hlocks := B.notSynchronized
  subst hsz
  have hD := hD0.self (sz := s.heap.size)
  generalize hAe : va_A (wX ad ca K u) s.heap.size = A at hD hE ⊢
  have hA : ∀ q : Nat, s.heap.size ≤ q → A q := fun q h => by rw [← hAe]; exact Or.inr h
  obtain ⟨H, hHe⟩ : ∃ z : Heap, z = s.heap := ⟨_, rfl⟩
  rw [← hHe]
  have hS : va_S A s.heap H [] := by rw [hHe]; exact va_S.rf
  have hP : va_P (dC, dI) vwCl (wX ad ca K u) H := by rw [hHe]; exact hP
  have hl := lv_entry ([.ref (ad 0), .ref p1, .int p2]) (n := 4) (Nat.le_of_ble_eq_true rfl)
  rw [lg_entry_eq]
  generalize (lg_sl ([.ref (ad 0), .ref p1, .int p2]) ++ List.replicate (4 - (lg_sl ([.ref (ad 0), .ref p1, .int p2])).length) Slot.unset).toArray = ls at hl ⊢
  have hl : lv_has ls 4 [(0, .ref (ad 0)), (1, .ref p1), (2, .int p2)] := hl
  clear hAe
  refine lv_aload_n hx hb dX0_fork_0 rfl (lv_at hl 0 rfl) ?_
  refine lv_aload_n hx hb dX0_fork_1 rfl (lv_at hl 1 rfl) ?_
  obtain ⟨k9, hk9⟩ := xJ_get hp1
  refine va_get (D := (dC, dI)) (ci := 5) (v := .int (K.2.2.2.1 p1 2)) (C := RX5) (T := TX5) (N := 9) hx hb hts uwX5 hown hK hP k9 hk9 rfl 2 (by decide) (hts _ wd_320) (fun _ h9 => h9) rfl dX0_fork_2 ?_
  refine gc_q (w := wX ad ca K) (u := u) (va_runV (As := [.int (K.2.2.2.1 p1 2)]) (rest := []) ⟨hx, hb, hml, hown, hts⟩ (cX0_find l dC dI ad ca K H.size u (K.2.2.2.1 p1 2) _ h) (cwV 1 hts (gG_V wd_368 wd_370 wd_2 wd_46 wd_371) rfl rfl rfl (by decide +kernel) (rmN_le (k := 1) (by omega) (by decide))) ⟨gB_blind xE_ok, va_recv hK hP (ci := 0) (q0 := 0) rfl rfl, gB_pre xE_ok hP hK hD hE hS hA⟩ rfl rfl hl.1 rfl (lv_room (Nat.le_of_ble_eq_true rfl)) dX0_fork_5 ⟨Nat.le_of_ble_eq_true rfl, Nat.le_of_ble_eq_true rfl⟩) hD hS hA (fun r1 u2 H locs h hP hD hS => ?_)
  refine gq_astore_n (r := r1) (lv' := [(3, va_rf r1), (0, .ref (ad 0)), (1, .ref p1), (2, .int p2)]) hx hb dX0_fork_8 rfl hl (by decide) rfl (fun ls hl => ?_)
  refine gq_aload_n (r := r1) hx hb dX0_fork_9 rfl (lv_at hl 0 rfl) ?_
  rcases r1 with _ | y3
  · have h := h.1 rfl
    refine lv_ifnullN (tgt := 20) hx hb dX0_fork_10 (by decide) ?_
    refine lv_aload_n hx hb dX0_fork_20 rfl (lv_at hl 2 rfl) ?_
    refine lv_iconst (v := 4) hx hb dX0_fork_21 (by decide) ?_
    refine gc_v (w := wX ad ca K) (u := u2) (va_runV (As := [.int 4]) (rest := []) ⟨hx, hb, hml, hown, hts⟩ (cX5_fail l dC dI ad ca K H.size u2 p1 4 _ hp1 h) (cwV 1 hts (gG_V wd_454 wd_440 wd_441 wd_58 wd_442) rfl rfl rfl (by decide +kernel) (rmN_le (k := 1) (by omega) (by decide))) ⟨gB_blind xE_ok, (by obtain ⟨k9, hk9⟩ := xJ_get hp1; exact va_recv hK hP (ci := 5) (q0 := k9) rfl hk9), gB_pre xE_ok hP hK hD hE hS hA⟩ rfl rfl hl.1 rfl (lv_room (Nat.le_of_ble_eq_true rfl)) dX0_fork_22 ⟨Nat.le_of_ble_eq_true rfl, Nat.le_of_ble_eq_true rfl⟩) hD hS hA (fun u5 H locs h hP hD hS => ?_)
    exact gr_v (w := wX ad ca K) (u := u5) hx hb hr hlocks h hP hK hD hS dX0_fork_25
  · have h := h.2 y3 rfl
    refine lv_ifnull hx hb dX0_fork_10 ?_
    refine lv_aload_n hx hb dX0_fork_13 rfl (lv_at hl 0 rfl) ?_
    obtain ⟨hy6, h⟩ := h
    obtain ⟨k9, hk9⟩ := xJ_get hy6
    refine va_get (D := (dC, dI)) (ci := 5) (v := .int (sA u2 0 y3)) (C := RX5) (T := TX5) (N := 9) hx hb hts uwX5 hown hK hP k9 hk9 rfl 5 (by decide) (hts _ wd_327) (fun _ h9 => h9) rfl dX0_fork_14 ?_
    refine lv_if_eq (tgt := 26) hx hb dX0_fork_17 (by decide) (fun c7 => ?_) (fun c7 => ?_)
    · have h := h.1 c7
      refine lv_aload_n hx hb dX0_fork_26 rfl (lv_at hl 1 rfl) ?_
      refine lv_aload_n hx hb dX0_fork_27 rfl (lv_at hl 0 rfl) ?_
      refine lv_iload_n hx hb dX0_fork_28 rfl (lv_at hl 3 rfl) ?_
      refine lv_iconst (v := 1) hx hb dX0_fork_29 (by decide) ?_
      refine lv_iadd hx hb dX0_fork_30 ?_
      refine gc_v (w := wX ad ca K) (u := u2) (va_runV (As := [.ref y3, .int (p2 + 1)]) (rest := []) ⟨hx, hb, hml, hown, hts⟩ (hadm H.size u2 y3 (p2 + 1) _ hy6 h) (cwV 2 hts (gG_V wd_389 wd_391 wd_3 wd_46 wd_392) rfl rfl rfl (by decide +kernel) (rmN_le (k := 4 * n + 4) (by omega) (by decide))) ⟨gB_blind xE_ok, va_recv hK hP (ci := 0) (q0 := 0) rfl rfl, gB_pre xE_ok hP hK hD hE hS hA⟩ rfl rfl hl.1 rfl (lv_room (Nat.le_of_ble_eq_true rfl)) dX0_fork_31 ⟨Nat.le_of_ble_eq_true rfl, Nat.le_of_ble_eq_true rfl⟩) hD hS hA (fun u9 H locs h hP hD hS => ?_)
      refine lv_aload_n hx hb dX0_fork_34 rfl (lv_at hl 0 rfl) ?_
      obtain ⟨k9, hk9⟩ := xJ_get hy6
      refine va_get (D := (dC, dI)) (ci := 5) (v := .int (sA u9 0 y3)) (C := RX5) (T := TX5) (N := 9) hx hb hts uwX5 hown hK hP k9 hk9 rfl 5 (by decide) (hts _ wd_327) (fun _ h9 => h9) rfl dX0_fork_35 ?_
      refine lv_bipush (v := 6) hx hb dX0_fork_38 (by decide) ?_
      refine lv_icmp_ne (tgt := 51) hx hb dX0_fork_40 (by decide) (fun c10 => ?_) (fun c10 => ?_)
      · have h := h.1 c10
        refine lv_aload_n hx hb dX0_fork_51 rfl (lv_at hl 2 rfl) ?_
        refine lv_aload_n hx hb dX0_fork_52 rfl (lv_at hl 0 rfl) ?_
        obtain ⟨k9, hk9⟩ := xJ_get hy6
        refine va_get (D := (dC, dI)) (ci := 5) (v := .int (sA u9 0 y3)) (C := RX5) (T := TX5) (N := 9) hx hb hts uwX5 hown hK hP k9 hk9 rfl 5 (by decide) (hts _ wd_327) (fun _ h9 => h9) rfl dX0_fork_53 ?_
        refine gc_v (w := wX ad ca K) (u := u9) (va_runV (As := [.int (sA u9 0 y3)]) (rest := []) ⟨hx, hb, hml, hown, hts⟩ (cX5_succeed l dC dI ad ca K H.size u9 p1 (sA u9 0 y3) _ hp1 h) (cwV 1 hts (gG_V wd_431 wd_432 wd_433 wd_58 wd_434) rfl rfl rfl (by decide +kernel) (rmN_le (k := 1) (by omega) (by decide))) ⟨gB_blind xE_ok, (by obtain ⟨k9, hk9⟩ := xJ_get hp1; exact va_recv hK hP (ci := 5) (q0 := k9) rfl hk9), gB_pre xE_ok hP hK hD hE hS hA⟩ rfl rfl hl.1 rfl (lv_room (Nat.le_of_ble_eq_true rfl)) dX0_fork_56 ⟨Nat.le_of_ble_eq_true rfl, Nat.le_of_ble_eq_true rfl⟩) hD hS hA (fun u12 H locs h hP hD hS => ?_)
        exact gr_v (w := wX ad ca K) (u := u12) hx hb hr hlocks h hP hK hD hS dX0_fork_59
      · have h := h.2 c10
        refine lv_aload_n hx hb dX0_fork_43 rfl (lv_at hl 2 rfl) ?_
        refine lv_iconst (v := 4) hx hb dX0_fork_44 (by decide) ?_
        refine gc_v (w := wX ad ca K) (u := u9) (va_runV (As := [.int 4]) (rest := []) ⟨hx, hb, hml, hown, hts⟩ (cX5_fail l dC dI ad ca K H.size u9 p1 4 _ hp1 h) (cwV 1 hts (gG_V wd_454 wd_440 wd_441 wd_58 wd_442) rfl rfl rfl (by decide +kernel) (rmN_le (k := 1) (by omega) (by decide))) ⟨gB_blind xE_ok, (by obtain ⟨k9, hk9⟩ := xJ_get hp1; exact va_recv hK hP (ci := 5) (q0 := k9) rfl hk9), gB_pre xE_ok hP hK hD hE hS hA⟩ rfl rfl hl.1 rfl (lv_room (Nat.le_of_ble_eq_true rfl)) dX0_fork_45 ⟨Nat.le_of_ble_eq_true rfl, Nat.le_of_ble_eq_true rfl⟩) hD hS hA (fun u14 H locs h hP hD hS => ?_)
        refine lv_goto (tgt := 59) hx hb dX0_fork_48 (by decide) ?_
        exact gr_v (w := wX ad ca K) (u := u14) hx hb hr hlocks h hP hK hD hS dX0_fork_59
    · have h := h.2 c7
      refine lv_aload_n hx hb dX0_fork_20 rfl (lv_at hl 2 rfl) ?_
      refine lv_iconst (v := 4) hx hb dX0_fork_21 (by decide) ?_
      refine gc_v (w := wX ad ca K) (u := u2) (va_runV (As := [.int 4]) (rest := []) ⟨hx, hb, hml, hown, hts⟩ (cX5_fail l dC dI ad ca K H.size u2 p1 4 _ hp1 h) (cwV 1 hts (gG_V wd_454 wd_440 wd_441 wd_58 wd_442) rfl rfl rfl (by decide +kernel) (rmN_le (k := 1) (by omega) (by decide))) ⟨gB_blind xE_ok, (by obtain ⟨k9, hk9⟩ := xJ_get hp1; exact va_recv hK hP (ci := 5) (q0 := k9) rfl hk9), gB_pre xE_ok hP hK hD hE hS hA⟩ rfl rfl hl.1 rfl (lv_room (Nat.le_of_ble_eq_true rfl)) dX0_fork_22 ⟨Nat.le_of_ble_eq_true rfl, Nat.le_of_ble_eq_true rfl⟩) hD hS hA (fun u16 H locs h hP hD hS => ?_)
      exact gr_v (w := wX ad ca K) (u := u16) hx hb hr hlocks h hP hK hD hS dX0_fork_25

theorem dX0_performAndEnd_0 : decode prog_1_method_24_code 0 = .ok (.aload_n 1, 1) := by decide +kernel
theorem dX0_performAndEnd_1 : decode prog_1_method_24_code 1 = .ok (.getfield 203, 3) := by decide +kernel
theorem dX0_performAndEnd_4 : decode prog_1_method_24_code 4 = .ok (.tableswitch 78 0 4 #[36, 47, 54, 61, 69], 36) := by decide +kernel
theorem dX0_performAndEnd_40 : decode prog_1_method_24_code 40 = .ok (.aload_n 1, 1) := by decide +kernel
theorem dX0_performAndEnd_41 : decode prog_1_method_24_code 41 = .ok (.aload_n 1, 1) := by decide +kernel
theorem dX0_performAndEnd_42 : decode prog_1_method_24_code 42 = .ok (.getfield 267, 3) := by decide +kernel
theorem dX0_performAndEnd_45 : decode prog_1_method_24_code 45 = .ok (.invokevirtual 270, 3) := by decide +kernel
theorem dX0_performAndEnd_48 : decode prog_1_method_24_code 48 = .ok (.goto 39, 3) := by decide +kernel
theorem dX0_performAndEnd_51 : decode prog_1_method_24_code 51 = .ok (.aload_n 1, 1) := by decide +kernel
theorem dX0_performAndEnd_52 : decode prog_1_method_24_code 52 = .ok (.invokevirtual 273, 3) := by decide +kernel
theorem dX0_performAndEnd_55 : decode prog_1_method_24_code 55 = .ok (.goto 32, 3) := by decide +kernel
theorem dX0_performAndEnd_58 : decode prog_1_method_24_code 58 = .ok (.aload_n 1, 1) := by decide +kernel
theorem dX0_performAndEnd_59 : decode prog_1_method_24_code 59 = .ok (.invokevirtual 276, 3) := by decide +kernel
theorem dX0_performAndEnd_62 : decode prog_1_method_24_code 62 = .ok (.goto 25, 3) := by decide +kernel
theorem dX0_performAndEnd_65 : decode prog_1_method_24_code 65 = .ok (.aload_n 0, 1) := by decide +kernel
theorem dX0_performAndEnd_66 : decode prog_1_method_24_code 66 = .ok (.aload_n 1, 1) := by decide +kernel
theorem dX0_performAndEnd_67 : decode prog_1_method_24_code 67 = .ok (.invokevirtual 279, 3) := by decide +kernel
theorem dX0_performAndEnd_70 : decode prog_1_method_24_code 70 = .ok (.goto 17, 3) := by decide +kernel
theorem dX0_performAndEnd_73 : decode prog_1_method_24_code 73 = .ok (.aload_n 0, 1) := by decide +kernel
theorem dX0_performAndEnd_74 : decode prog_1_method_24_code 74 = .ok (.aload_n 1, 1) := by decide +kernel
theorem dX0_performAndEnd_75 : decode prog_1_method_24_code 75 = .ok (.iload_n 2, 1) := by decide +kernel
theorem dX0_performAndEnd_76 : decode prog_1_method_24_code 76 = .ok (.invokevirtual 282, 3) := by decide +kernel
theorem dX0_performAndEnd_79 : decode prog_1_method_24_code 79 = .ok (.goto 8, 3) := by decide +kernel
theorem dX0_performAndEnd_82 : decode prog_1_method_24_code 82 = .ok (.aload_n 1, 1) := by decide +kernel
theorem dX0_performAndEnd_83 : decode prog_1_method_24_code 83 = .ok (.iconst 5, 1) := by decide +kernel
theorem dX0_performAndEnd_84 : decode prog_1_method_24_code 84 = .ok (.invokevirtual 285, 3) := by decide +kernel
theorem dX0_performAndEnd_87 : decode prog_1_method_24_code 87 = .ok (.aload_n 0, 1) := by decide +kernel
theorem dX0_performAndEnd_88 : decode prog_1_method_24_code 88 = .ok (.dup, 1) := by decide +kernel
theorem dX0_performAndEnd_89 : decode prog_1_method_24_code 89 = .ok (.getfield 43, 3) := by decide +kernel
theorem dX0_performAndEnd_92 : decode prog_1_method_24_code 92 = .ok (.iconst 1, 1) := by decide +kernel
theorem dX0_performAndEnd_93 : decode prog_1_method_24_code 93 = .ok (.iadd, 1) := by decide +kernel
theorem dX0_performAndEnd_94 : decode prog_1_method_24_code 94 = .ok (.putfield 43, 3) := by decide +kernel
theorem dX0_performAndEnd_97 : decode prog_1_method_24_code 97 = .ok (.aload_n 1, 1) := by decide +kernel
theorem dX0_performAndEnd_98 : decode prog_1_method_24_code 98 = .ok (.getfield 115, 3) := by decide +kernel
theorem dX0_performAndEnd_101 : decode prog_1_method_24_code 101 = .ok (.astore_n 3, 1) := by decide +kernel
theorem dX0_performAndEnd_102 : decode prog_1_method_24_code 102 = .ok (.aload_n 1, 1) := by decide +kernel
theorem dX0_performAndEnd_103 : decode prog_1_method_24_code 103 = .ok (.getfield 90, 3) := by decide +kernel
theorem dX0_performAndEnd_106 : decode prog_1_method_24_code 106 = .ok (.iconst 3, 1) := by decide +kernel
theorem dX0_performAndEnd_107 : decode prog_1_method_24_code 107 = .ok (.if_icmp .ne 22, 3) := by decide +kernel
theorem dX0_performAndEnd_110 : decode prog_1_method_24_code 110 = .ok (.aload_n 3, 1) := by decide +kernel
theorem dX0_performAndEnd_111 : decode prog_1_method_24_code 111 = .ok (.ifnull 18, 3) := by decide +kernel
theorem dX0_performAndEnd_114 : decode prog_1_method_24_code 114 = .ok (.aload_n 3, 1) := by decide +kernel
theorem dX0_performAndEnd_115 : decode prog_1_method_24_code 115 = .ok (.getfield 90, 3) := by decide +kernel
theorem dX0_performAndEnd_118 : decode prog_1_method_24_code 118 = .ok (.ifCond .ne 11, 3) := by decide +kernel
theorem dX0_performAndEnd_121 : decode prog_1_method_24_code 121 = .ok (.aload_n 0, 1) := by decide +kernel
theorem dX0_performAndEnd_122 : decode prog_1_method_24_code 122 = .ok (.aload_n 3, 1) := by decide +kernel
theorem dX0_performAndEnd_123 : decode prog_1_method_24_code 123 = .ok (.iload_n 2, 1) := by decide +kernel
theorem dX0_performAndEnd_124 : decode prog_1_method_24_code 124 = .ok (.iconst 1, 1) := by decide +kernel
theorem dX0_performAndEnd_125 : decode prog_1_method_24_code 125 = .ok (.iadd, 1) := by decide +kernel
theorem dX0_performAndEnd_126 : decode prog_1_method_24_code 126 = .ok (.invokevirtual 95, 3) := by decide +kernel
theorem dX0_performAndEnd_129 : decode prog_1_method_24_code 129 = .ok (.return_, 1) := by decide +kernel
def wpX0_performAndEnd (K : KX) (adm : KX → (gS → Prop) → gS → Nat → Int32 → Prop) (post : gS → Prop) (u : gS) (p1 : Nat) (p2 : Int32) : Prop :=
  (((K.2.2.2.1 p1 1) = 0 → (wpX5_succeed K (fun (u3 : gS) => ∀ u4 : gS, u4 = tI u3 1 ((sI u3 1) + 1) → (∀ r5 : Option Nat, r5 = sQ u4 3 p1 → (((¬ (sA u4 0 p1) = 3 → (post u4)) ∧ ((sA u4 0 p1) = 3 → (((r5 = none → (post u4)) ∧ (∀ y7 : Nat, r5 = some y7 → (y7 ∈ K.2.2.1 ∧ (((¬ (sA u4 0 y7) = 0 → (post u4)) ∧ ((sA u4 0 y7) = 0 → (adm K (fun (u11 : gS) => post u11) u4 y7 (p2 + 1)))))))))))))) u p1 (K.2.2.2.1 p1 2))) ∧ (¬ (K.2.2.2.1 p1 1) = 0 → ((((K.2.2.2.1 p1 1) = 1 → (wpX5_divide K (fun (u14 : gS) => ∀ u15 : gS, u15 = tI u14 1 ((sI u14 1) + 1) → (∀ r16 : Option Nat, r16 = sQ u15 3 p1 → (((¬ (sA u15 0 p1) = 3 → (post u15)) ∧ ((sA u15 0 p1) = 3 → (((r16 = none → (post u15)) ∧ (∀ y18 : Nat, r16 = some y18 → (y18 ∈ K.2.2.1 ∧ (((¬ (sA u15 0 y18) = 0 → (post u15)) ∧ ((sA u15 0 y18) = 0 → (adm K (fun (u22 : gS) => post u22) u15 y18 (p2 + 1)))))))))))))) u p1)) ∧ (¬ (K.2.2.2.1 p1 1) = 1 → ((((K.2.2.2.1 p1 1) = 2 → (wpX5_pick K (fun (u25 : gS) => ∀ u26 : gS, u26 = tI u25 1 ((sI u25 1) + 1) → (∀ r27 : Option Nat, r27 = sQ u26 3 p1 → (((¬ (sA u26 0 p1) = 3 → (post u26)) ∧ ((sA u26 0 p1) = 3 → (((r27 = none → (post u26)) ∧ (∀ y29 : Nat, r27 = some y29 → (y29 ∈ K.2.2.1 ∧ (((¬ (sA u26 0 y29) = 0 → (post u26)) ∧ ((sA u26 0 y29) = 0 → (adm K (fun (u33 : gS) => post u33) u26 y29 (p2 + 1)))))))))))))) u p1)) ∧ (¬ (K.2.2.2.1 p1 1) = 2 → ((((K.2.2.2.1 p1 1) = 3 → (wpX0_sum K (fun (u36 : gS) => ∀ u37 : gS, u37 = tI u36 1 ((sI u36 1) + 1) → (∀ r38 : Option Nat, r38 = sQ u37 3 p1 → (((¬ (sA u37 0 p1) = 3 → (post u37)) ∧ ((sA u37 0 p1) = 3 → (((r38 = none → (post u37)) ∧ (∀ y40 : Nat, r38 = some y40 → (y40 ∈ K.2.2.1 ∧ (((¬ (sA u37 0 y40) = 0 → (post u37)) ∧ ((sA u37 0 y40) = 0 → (adm K (fun (u44 : gS) => post u44) u37 y40 (p2 + 1)))))))))))))) u p1)) ∧ (¬ (K.2.2.2.1 p1 1) = 3 → ((((K.2.2.2.1 p1 1) = 4 → (wpX0_fork K adm (fun (u47 : gS) => ∀ u48 : gS, u48 = tI u47 1 ((sI u47 1) + 1) → (∀ r49 : Option Nat, r49 = sQ u48 3 p1 → (((¬ (sA u48 0 p1) = 3 → (post u48)) ∧ ((sA u48 0 p1) = 3 → (((r49 = none → (post u48)) ∧ (∀ y51 : Nat, r49 = some y51 → (y51 ∈ K.2.2.1 ∧ (((¬ (sA u48 0 y51) = 0 → (post u48)) ∧ ((sA u48 0 y51) = 0 → (adm K (fun (u55 : gS) => post u55) u48 y51 (p2 + 1)))))))))))))) u p1 p2)) ∧ (¬ (K.2.2.2.1 p1 1) = 4 → (wpX5_fail K (fun (u57 : gS) => ∀ u58 : gS, u58 = tI u57 1 ((sI u57 1) + 1) → (∀ r59 : Option Nat, r59 = sQ u58 3 p1 → (((¬ (sA u58 0 p1) = 3 → (post u58)) ∧ ((sA u58 0 p1) = 3 → (((r59 = none → (post u58)) ∧ (∀ y61 : Nat, r59 = some y61 → (y61 ∈ K.2.2.1 ∧ (((¬ (sA u58 0 y61) = 0 → (post u58)) ∧ ((sA u58 0 y61) = 0 → (adm K (fun (u65 : gS) => post u65) u58 y61 (p2 + 1)))))))))))))) u p1 5)))))))))))))))

set_option maxHeartbeats 8000000 in
set_option maxRecDepth 100000 in
theorem cX0_performAndEnd (l : Launch) (dC : Nat → ClassId) (dI : Nat → Nat → Nat) (ad : Nat → Nat) (ca : Nat → ClassId) (K : KX) (n : Nat) (adm : KX → (gS → Prop) → gS → Nat → Int32 → Prop) (sz : Nat) (u : gS) (p1 : Nat) (p2 : Int32) (post : gS → Prop) (hp1 : p1 ∈ K.2.2.1) (h : wpX0_performAndEnd K adm post u p1 p2) (hadm : ∀ (sz : Nat) (u : gS) (p1 : Nat) (p2 : Int32) (post : gS → Prop), p1 ∈ K.2.2.1 → adm K post u p1 p2 → Met l ⟨"WorkHall", "admit", "(LWorkHall$Job;I)V"⟩ (gw ⟨"WorkHall", "admit", "(LWorkHall$Job;I)V"⟩ prog_1_method_22_code 4 none) (rmN (4 * n + 4)) (va_Pc [.ref (ad 0), .ref p1, .int p2] (gB (dC, dI) vwCl (xT ca) xE (wX ad ca K u) sz)) (va_Qv post (gAt (dC, dI) vwCl (xT ca) (wX ad ca K) (va_A (wX ad ca K u) sz)) (va_A (wX ad ca K u) sz)) 0 0 (va_A (wX ad ca K u) sz)) : Met l ⟨"WorkHall", "performAndEnd", "(LWorkHall$Job;I)V"⟩ (gw ⟨"WorkHall", "performAndEnd", "(LWorkHall$Job;I)V"⟩ prog_1_method_24_code 4 none) (rmN (4 * n + 6)) (va_Pc [.ref (ad 0), .ref p1, .int p2] (gB (dC, dI) vwCl (xT ca) xE (wX ad ca K u) sz)) (va_Qv post (gAt (dC, dI) vwCl (xT ca) (wX ad ca K) (va_A (wX ad ca K u) sz)) (va_A (wX ad ca K u) sz)) 0 0 (va_A (wX ad ca K u) sz) := by
  refine Met.ofW (cc := prog_1_method_24_code) (maxL := 4) (ret := none) (by decide) rfl ?_
  intro p e s m args below meth c s₁ B hml hv
  obtain ⟨rfl, hsz, hP, hK, hD0, hE⟩ := hv
  have hx := B.exec
  have hb := B.bytes
  have hr := B.returns
  have hts : ∀ w ∈ gW, w.before _ s = true := fun w h9 => atoms_spec (ws := (gw ⟨"WorkHall", "performAndEnd", "(LWorkHall$Job;I)V"⟩ prog_1_method_24_code 4 none)) B.pre w (List.mem_cons_of_mem _ h9)
  have hown : s.vm.findClass RX0 = some m.cls := findClass_of_methodNamed B.named
  have hlocks := B.notSynchronized
  subst hsz
  have hD := hD0.self (sz := s.heap.size)
  generalize hAe : va_A (wX ad ca K u) s.heap.size = A at hD hE ⊢
  have hA : ∀ q : Nat, s.heap.size ≤ q → A q := fun q h => by rw [← hAe]; exact Or.inr h
  obtain ⟨H, hHe⟩ : ∃ z : Heap, z = s.heap := ⟨_, rfl⟩
  rw [← hHe]
  have hS : va_S A s.heap H [] := by rw [hHe]; exact va_S.rf
  have hP : va_P (dC, dI) vwCl (wX ad ca K u) H := by rw [hHe]; exact hP
  have hl := lv_entry ([.ref (ad 0), .ref p1, .int p2]) (n := 4) (Nat.le_of_ble_eq_true rfl)
  rw [lg_entry_eq]
  generalize (lg_sl ([.ref (ad 0), .ref p1, .int p2]) ++ List.replicate (4 - (lg_sl ([.ref (ad 0), .ref p1, .int p2])).length) Slot.unset).toArray = ls at hl ⊢
  have hl : lv_has ls 4 [(0, .ref (ad 0)), (1, .ref p1), (2, .int p2)] := hl
  clear hAe
  refine lv_aload_n hx hb dX0_performAndEnd_0 rfl (lv_at hl 1 rfl) ?_
  obtain ⟨k9, hk9⟩ := xJ_get hp1
  refine va_get (D := (dC, dI)) (ci := 5) (v := .int (K.2.2.2.1 p1 1)) (C := RX5) (T := TX5) (N := 9) hx hb hts uwX5 hown hK hP k9 hk9 rfl 1 (by decide) (hts _ wd_318) (fun _ h9 => h9) rfl dX0_performAndEnd_1 ?_
  by_cases c1 : (K.2.2.2.1 p1 1) = 0
  · have h := h.1 c1
    have e70 : (K.2.2.2.1 p1 1).toInt = 0 := by rw [c1]; rfl
    refine lv_tableIn (off := 36) (tgt := 40) hx hb dX0_performAndEnd_4 (by rw [e70]; decide) (by rw [e70]; decide) (by rw [e70]; rfl) (by decide) ?_
    refine lv_aload_n hx hb dX0_performAndEnd_40 rfl (lv_at hl 1 rfl) ?_
    refine lv_aload_n hx hb dX0_performAndEnd_41 rfl (lv_at hl 1 rfl) ?_
    obtain ⟨k9, hk9⟩ := xJ_get hp1
    refine va_get (D := (dC, dI)) (ci := 5) (v := .int (K.2.2.2.1 p1 2)) (C := RX5) (T := TX5) (N := 9) hx hb hts uwX5 hown hK hP k9 hk9 rfl 2 (by decide) (hts _ wd_320) (fun _ h9 => h9) rfl dX0_performAndEnd_42 ?_
    refine gc_v (w := wX ad ca K) (u := u) (va_runV (As := [.int (K.2.2.2.1 p1 2)]) (rest := []) ⟨hx, hb, hml, hown, hts⟩ (cX5_succeed l dC dI ad ca K H.size u p1 (K.2.2.2.1 p1 2) _ hp1 h) (cwV 1 hts (gG_V wd_431 wd_432 wd_433 wd_58 wd_434) rfl rfl rfl (by decide +kernel) (rmN_le (k := 1) (by omega) (by decide))) ⟨gB_blind xE_ok, (by obtain ⟨k9, hk9⟩ := xJ_get hp1; exact va_recv hK hP (ci := 5) (q0 := k9) rfl hk9), gB_pre xE_ok hP hK hD hE hS hA⟩ rfl rfl hl.1 rfl (lv_room (Nat.le_of_ble_eq_true rfl)) dX0_performAndEnd_45 ⟨Nat.le_of_ble_eq_true rfl, Nat.le_of_ble_eq_true rfl⟩) hD hS hA (fun u3 H locs h hP hD hS => ?_)
    refine lv_goto (tgt := 87) hx hb dX0_performAndEnd_48 (by decide) ?_
    refine lv_aload_n hx hb dX0_performAndEnd_87 rfl (lv_at hl 0 rfl) ?_
    refine lv_dup hx hb dX0_performAndEnd_88 rfl ?_
    refine va_get (D := (dC, dI)) (ci := 0) (v := .int (sI u3 1)) (C := RX0) (T := TX0) (N := 12) hx hb hts uwX0 hown hK hP 0 rfl rfl 10 (by decide) (hts _ wd_182) (fun _ h9 => h9) rfl dX0_performAndEnd_89 ?_
    refine lv_iconst (v := 1) hx hb dX0_performAndEnd_92 (by decide) ?_
    refine lv_iadd hx hb dX0_performAndEnd_93 ?_
    refine va_put (D := (dC, dI)) (ci := 0) (v := .int ((sI u3 1) + 1)) (ty := tyX0 10) (C := RX0) (T := TX0) (N := 12) hx hb hts uwX0 tyX0 tyX0_ok nmX0 hown hK hP hD hS 0 rfl rfl 10 (by decide) (hts _ wd_182) (fun _ h9 => h9) rfl (tyX0_ok 10 (by decide)) rfl rfl (Nat.le_of_ble_eq_true rfl) dX0_performAndEnd_94 (fun H locs hP hD hS => ?_)
    obtain ⟨u4, eu4⟩ : ∃ z : gS, z = tI u3 1 ((sI u3 1) + 1) := ⟨_, rfl⟩
    have hP : va_P (dC, dI) vwCl (wX ad ca K u4) H := by rw [eu4, wX_f0_finished]; exact hP
    have hD : va_D A (wX ad ca K u4) := by rw [eu4, wX_f0_finished]; exact hD
    have h := h u4 eu4
    refine lv_aload_n hx hb dX0_performAndEnd_97 rfl (lv_at hl 1 rfl) ?_
    obtain ⟨k9, hk9⟩ := xJ_get hp1
    refine va_get (D := (dC, dI)) (ci := 5) (v := va_rf (sQ u4 3 p1)) (C := RX5) (T := TX5) (N := 9) hx hb hts uwX5 hown hK hP k9 hk9 rfl 8 (by decide) (hts _ wd_335) (fun _ h9 => h9) rfl dX0_performAndEnd_98 ?_
    refine gq_top (fun r5 er5 => ?_)
    have h := h r5 er5
    refine gq_astore_n (r := r5) (lv' := [(3, va_rf r5), (0, .ref (ad 0)), (1, .ref p1), (2, .int p2)]) hx hb dX0_performAndEnd_101 rfl hl (by decide) rfl (fun ls hl => ?_)
    refine lv_aload_n hx hb dX0_performAndEnd_102 rfl (lv_at hl 2 rfl) ?_
    obtain ⟨k9, hk9⟩ := xJ_get hp1
    refine va_get (D := (dC, dI)) (ci := 5) (v := .int (sA u4 0 p1)) (C := RX5) (T := TX5) (N := 9) hx hb hts uwX5 hown hK hP k9 hk9 rfl 5 (by decide) (hts _ wd_327) (fun _ h9 => h9) rfl dX0_performAndEnd_103 ?_
    refine lv_iconst (v := 3) hx hb dX0_performAndEnd_106 (by decide) ?_
    refine lv_icmp_ne (tgt := 129) hx hb dX0_performAndEnd_107 (by decide) (fun c6 => ?_) (fun c6 => ?_)
    · have h := h.1 c6
      exact gr_v (w := wX ad ca K) (u := u4) hx hb hr hlocks h hP hK hD hS dX0_performAndEnd_129
    · have h := h.2 c6
      refine gq_aload_n (r := r5) hx hb dX0_performAndEnd_110 rfl (lv_at hl 0 rfl) ?_
      rcases r5 with _ | y7
      · have h := h.1 rfl
        refine lv_ifnullN (tgt := 129) hx hb dX0_performAndEnd_111 (by decide) ?_
        exact gr_v (w := wX ad ca K) (u := u4) hx hb hr hlocks h hP hK hD hS dX0_performAndEnd_129
      · have h := h.2 y7 rfl
        refine lv_ifnull hx hb dX0_performAndEnd_111 ?_
        refine lv_aload_n hx hb dX0_performAndEnd_114 rfl (lv_at hl 0 rfl) ?_
        obtain ⟨hy8, h⟩ := h
        obtain ⟨k9, hk9⟩ := xJ_get hy8
        refine va_get (D := (dC, dI)) (ci := 5) (v := .int (sA u4 0 y7)) (C := RX5) (T := TX5) (N := 9) hx hb hts uwX5 hown hK hP k9 hk9 rfl 5 (by decide) (hts _ wd_327) (fun _ h9 => h9) rfl dX0_performAndEnd_115 ?_
        refine lv_if_ne (tgt := 129) hx hb dX0_performAndEnd_118 (by decide) (fun c9 => ?_) (fun c9 => ?_)
        · have h := h.1 c9
          exact gr_v (w := wX ad ca K) (u := u4) hx hb hr hlocks h hP hK hD hS dX0_performAndEnd_129
        · have h := h.2 c9
          refine lv_aload_n hx hb dX0_performAndEnd_121 rfl (lv_at hl 1 rfl) ?_
          refine lv_aload_n hx hb dX0_performAndEnd_122 rfl (lv_at hl 0 rfl) ?_
          refine lv_iload_n hx hb dX0_performAndEnd_123 rfl (lv_at hl 3 rfl) ?_
          refine lv_iconst (v := 1) hx hb dX0_performAndEnd_124 (by decide) ?_
          refine lv_iadd hx hb dX0_performAndEnd_125 ?_
          refine gc_v (w := wX ad ca K) (u := u4) (va_runV (As := [.ref y7, .int (p2 + 1)]) (rest := []) ⟨hx, hb, hml, hown, hts⟩ (hadm H.size u4 y7 (p2 + 1) _ hy8 h) (cwV 2 hts (gG_V wd_389 wd_391 wd_3 wd_46 wd_392) rfl rfl rfl (by decide +kernel) (rmN_le (k := 4 * n + 4) (by omega) (by decide))) ⟨gB_blind xE_ok, va_recv hK hP (ci := 0) (q0 := 0) rfl rfl, gB_pre xE_ok hP hK hD hE hS hA⟩ rfl rfl hl.1 rfl (lv_room (Nat.le_of_ble_eq_true rfl)) dX0_performAndEnd_126 ⟨Nat.le_of_ble_eq_true rfl, Nat.le_of_ble_eq_true rfl⟩) hD hS hA (fun u11 H locs h hP hD hS => ?_)
          exact gr_v (w := wX ad ca K) (u := u11) hx hb hr hlocks h hP hK hD hS dX0_performAndEnd_129
  · have h := h.2 c1
    by_cases c12 : (K.2.2.2.1 p1 1) = 1
    · have h := h.1 c12
      have e69 : (K.2.2.2.1 p1 1).toInt = 1 := by rw [c12]; rfl
      refine lv_tableIn (off := 47) (tgt := 51) hx hb dX0_performAndEnd_4 (by rw [e69]; decide) (by rw [e69]; decide) (by rw [e69]; rfl) (by decide) ?_
      refine lv_aload_n hx hb dX0_performAndEnd_51 rfl (lv_at hl 1 rfl) ?_
      refine gc_v (w := wX ad ca K) (u := u) (va_runV (As := []) (rest := []) ⟨hx, hb, hml, hown, hts⟩ (cX5_divide l dC dI ad ca K H.size u p1 _ hp1 h) (cwV 0 hts (gG_V wd_435 wd_436 wd_437 wd_58 wd_438) rfl rfl rfl (by decide +kernel) (rmN_le (k := 2) (by omega) (by decide))) ⟨gB_blind xE_ok, (by obtain ⟨k9, hk9⟩ := xJ_get hp1; exact va_recv hK hP (ci := 5) (q0 := k9) rfl hk9), gB_pre xE_ok hP hK hD hE hS hA⟩ rfl rfl hl.1 rfl (lv_room (Nat.le_of_ble_eq_true rfl)) dX0_performAndEnd_52 ⟨Nat.le_of_ble_eq_true rfl, Nat.le_of_ble_eq_true rfl⟩) hD hS hA (fun u14 H locs h hP hD hS => ?_)
      refine lv_goto (tgt := 87) hx hb dX0_performAndEnd_55 (by decide) ?_
      refine lv_aload_n hx hb dX0_performAndEnd_87 rfl (lv_at hl 0 rfl) ?_
      refine lv_dup hx hb dX0_performAndEnd_88 rfl ?_
      refine va_get (D := (dC, dI)) (ci := 0) (v := .int (sI u14 1)) (C := RX0) (T := TX0) (N := 12) hx hb hts uwX0 hown hK hP 0 rfl rfl 10 (by decide) (hts _ wd_182) (fun _ h9 => h9) rfl dX0_performAndEnd_89 ?_
      refine lv_iconst (v := 1) hx hb dX0_performAndEnd_92 (by decide) ?_
      refine lv_iadd hx hb dX0_performAndEnd_93 ?_
      refine va_put (D := (dC, dI)) (ci := 0) (v := .int ((sI u14 1) + 1)) (ty := tyX0 10) (C := RX0) (T := TX0) (N := 12) hx hb hts uwX0 tyX0 tyX0_ok nmX0 hown hK hP hD hS 0 rfl rfl 10 (by decide) (hts _ wd_182) (fun _ h9 => h9) rfl (tyX0_ok 10 (by decide)) rfl rfl (Nat.le_of_ble_eq_true rfl) dX0_performAndEnd_94 (fun H locs hP hD hS => ?_)
      obtain ⟨u15, eu15⟩ : ∃ z : gS, z = tI u14 1 ((sI u14 1) + 1) := ⟨_, rfl⟩
      have hP : va_P (dC, dI) vwCl (wX ad ca K u15) H := by rw [eu15, wX_f0_finished]; exact hP
      have hD : va_D A (wX ad ca K u15) := by rw [eu15, wX_f0_finished]; exact hD
      have h := h u15 eu15
      refine lv_aload_n hx hb dX0_performAndEnd_97 rfl (lv_at hl 1 rfl) ?_
      obtain ⟨k9, hk9⟩ := xJ_get hp1
      refine va_get (D := (dC, dI)) (ci := 5) (v := va_rf (sQ u15 3 p1)) (C := RX5) (T := TX5) (N := 9) hx hb hts uwX5 hown hK hP k9 hk9 rfl 8 (by decide) (hts _ wd_335) (fun _ h9 => h9) rfl dX0_performAndEnd_98 ?_
      refine gq_top (fun r16 er16 => ?_)
      have h := h r16 er16
      refine gq_astore_n (r := r16) (lv' := [(3, va_rf r16), (0, .ref (ad 0)), (1, .ref p1), (2, .int p2)]) hx hb dX0_performAndEnd_101 rfl hl (by decide) rfl (fun ls hl => ?_)
      refine lv_aload_n hx hb dX0_performAndEnd_102 rfl (lv_at hl 2 rfl) ?_
      obtain ⟨k9, hk9⟩ := xJ_get hp1
      refine va_get (D := (dC, dI)) (ci := 5) (v := .int (sA u15 0 p1)) (C := RX5) (T := TX5) (N := 9) hx hb hts uwX5 hown hK hP k9 hk9 rfl 5 (by decide) (hts _ wd_327) (fun _ h9 => h9) rfl dX0_performAndEnd_103 ?_
      refine lv_iconst (v := 3) hx hb dX0_performAndEnd_106 (by decide) ?_
      refine lv_icmp_ne (tgt := 129) hx hb dX0_performAndEnd_107 (by decide) (fun c17 => ?_) (fun c17 => ?_)
      · have h := h.1 c17
        exact gr_v (w := wX ad ca K) (u := u15) hx hb hr hlocks h hP hK hD hS dX0_performAndEnd_129
      · have h := h.2 c17
        refine gq_aload_n (r := r16) hx hb dX0_performAndEnd_110 rfl (lv_at hl 0 rfl) ?_
        rcases r16 with _ | y18
        · have h := h.1 rfl
          refine lv_ifnullN (tgt := 129) hx hb dX0_performAndEnd_111 (by decide) ?_
          exact gr_v (w := wX ad ca K) (u := u15) hx hb hr hlocks h hP hK hD hS dX0_performAndEnd_129
        · have h := h.2 y18 rfl
          refine lv_ifnull hx hb dX0_performAndEnd_111 ?_
          refine lv_aload_n hx hb dX0_performAndEnd_114 rfl (lv_at hl 0 rfl) ?_
          obtain ⟨hy19, h⟩ := h
          obtain ⟨k9, hk9⟩ := xJ_get hy19
          refine va_get (D := (dC, dI)) (ci := 5) (v := .int (sA u15 0 y18)) (C := RX5) (T := TX5) (N := 9) hx hb hts uwX5 hown hK hP k9 hk9 rfl 5 (by decide) (hts _ wd_327) (fun _ h9 => h9) rfl dX0_performAndEnd_115 ?_
          refine lv_if_ne (tgt := 129) hx hb dX0_performAndEnd_118 (by decide) (fun c20 => ?_) (fun c20 => ?_)
          · have h := h.1 c20
            exact gr_v (w := wX ad ca K) (u := u15) hx hb hr hlocks h hP hK hD hS dX0_performAndEnd_129
          · have h := h.2 c20
            refine lv_aload_n hx hb dX0_performAndEnd_121 rfl (lv_at hl 1 rfl) ?_
            refine lv_aload_n hx hb dX0_performAndEnd_122 rfl (lv_at hl 0 rfl) ?_
            refine lv_iload_n hx hb dX0_performAndEnd_123 rfl (lv_at hl 3 rfl) ?_
            refine lv_iconst (v := 1) hx hb dX0_performAndEnd_124 (by decide) ?_
            refine lv_iadd hx hb dX0_performAndEnd_125 ?_
            refine gc_v (w := wX ad ca K) (u := u15) (va_runV (As := [.ref y18, .int (p2 + 1)]) (rest := []) ⟨hx, hb, hml, hown, hts⟩ (hadm H.size u15 y18 (p2 + 1) _ hy19 h) (cwV 2 hts (gG_V wd_389 wd_391 wd_3 wd_46 wd_392) rfl rfl rfl (by decide +kernel) (rmN_le (k := 4 * n + 4) (by omega) (by decide))) ⟨gB_blind xE_ok, va_recv hK hP (ci := 0) (q0 := 0) rfl rfl, gB_pre xE_ok hP hK hD hE hS hA⟩ rfl rfl hl.1 rfl (lv_room (Nat.le_of_ble_eq_true rfl)) dX0_performAndEnd_126 ⟨Nat.le_of_ble_eq_true rfl, Nat.le_of_ble_eq_true rfl⟩) hD hS hA (fun u22 H locs h hP hD hS => ?_)
            exact gr_v (w := wX ad ca K) (u := u22) hx hb hr hlocks h hP hK hD hS dX0_performAndEnd_129
    · have h := h.2 c12
      by_cases c23 : (K.2.2.2.1 p1 1) = 2
      · have h := h.1 c23
        have e68 : (K.2.2.2.1 p1 1).toInt = 2 := by rw [c23]; rfl
        refine lv_tableIn (off := 54) (tgt := 58) hx hb dX0_performAndEnd_4 (by rw [e68]; decide) (by rw [e68]; decide) (by rw [e68]; rfl) (by decide) ?_
        refine lv_aload_n hx hb dX0_performAndEnd_58 rfl (lv_at hl 1 rfl) ?_
        refine gc_v (w := wX ad ca K) (u := u) (va_runV (As := []) (rest := []) ⟨hx, hb, hml, hown, hts⟩ (cX5_pick l dC dI ad ca K H.size u p1 _ hp1 h) (cwV 0 hts (gG_V wd_444 wd_445 wd_446 wd_58 wd_447) rfl rfl rfl (by decide +kernel) (rmN_le (k := 2) (by omega) (by decide))) ⟨gB_blind xE_ok, (by obtain ⟨k9, hk9⟩ := xJ_get hp1; exact va_recv hK hP (ci := 5) (q0 := k9) rfl hk9), gB_pre xE_ok hP hK hD hE hS hA⟩ rfl rfl hl.1 rfl (lv_room (Nat.le_of_ble_eq_true rfl)) dX0_performAndEnd_59 ⟨Nat.le_of_ble_eq_true rfl, Nat.le_of_ble_eq_true rfl⟩) hD hS hA (fun u25 H locs h hP hD hS => ?_)
        refine lv_goto (tgt := 87) hx hb dX0_performAndEnd_62 (by decide) ?_
        refine lv_aload_n hx hb dX0_performAndEnd_87 rfl (lv_at hl 0 rfl) ?_
        refine lv_dup hx hb dX0_performAndEnd_88 rfl ?_
        refine va_get (D := (dC, dI)) (ci := 0) (v := .int (sI u25 1)) (C := RX0) (T := TX0) (N := 12) hx hb hts uwX0 hown hK hP 0 rfl rfl 10 (by decide) (hts _ wd_182) (fun _ h9 => h9) rfl dX0_performAndEnd_89 ?_
        refine lv_iconst (v := 1) hx hb dX0_performAndEnd_92 (by decide) ?_
        refine lv_iadd hx hb dX0_performAndEnd_93 ?_
        refine va_put (D := (dC, dI)) (ci := 0) (v := .int ((sI u25 1) + 1)) (ty := tyX0 10) (C := RX0) (T := TX0) (N := 12) hx hb hts uwX0 tyX0 tyX0_ok nmX0 hown hK hP hD hS 0 rfl rfl 10 (by decide) (hts _ wd_182) (fun _ h9 => h9) rfl (tyX0_ok 10 (by decide)) rfl rfl (Nat.le_of_ble_eq_true rfl) dX0_performAndEnd_94 (fun H locs hP hD hS => ?_)
        obtain ⟨u26, eu26⟩ : ∃ z : gS, z = tI u25 1 ((sI u25 1) + 1) := ⟨_, rfl⟩
        have hP : va_P (dC, dI) vwCl (wX ad ca K u26) H := by rw [eu26, wX_f0_finished]; exact hP
        have hD : va_D A (wX ad ca K u26) := by rw [eu26, wX_f0_finished]; exact hD
        have h := h u26 eu26
        refine lv_aload_n hx hb dX0_performAndEnd_97 rfl (lv_at hl 1 rfl) ?_
        obtain ⟨k9, hk9⟩ := xJ_get hp1
        refine va_get (D := (dC, dI)) (ci := 5) (v := va_rf (sQ u26 3 p1)) (C := RX5) (T := TX5) (N := 9) hx hb hts uwX5 hown hK hP k9 hk9 rfl 8 (by decide) (hts _ wd_335) (fun _ h9 => h9) rfl dX0_performAndEnd_98 ?_
        refine gq_top (fun r27 er27 => ?_)
        have h := h r27 er27
        refine gq_astore_n (r := r27) (lv' := [(3, va_rf r27), (0, .ref (ad 0)), (1, .ref p1), (2, .int p2)]) hx hb dX0_performAndEnd_101 rfl hl (by decide) rfl (fun ls hl => ?_)
        refine lv_aload_n hx hb dX0_performAndEnd_102 rfl (lv_at hl 2 rfl) ?_
        obtain ⟨k9, hk9⟩ := xJ_get hp1
        refine va_get (D := (dC, dI)) (ci := 5) (v := .int (sA u26 0 p1)) (C := RX5) (T := TX5) (N := 9) hx hb hts uwX5 hown hK hP k9 hk9 rfl 5 (by decide) (hts _ wd_327) (fun _ h9 => h9) rfl dX0_performAndEnd_103 ?_
        refine lv_iconst (v := 3) hx hb dX0_performAndEnd_106 (by decide) ?_
        refine lv_icmp_ne (tgt := 129) hx hb dX0_performAndEnd_107 (by decide) (fun c28 => ?_) (fun c28 => ?_)
        · have h := h.1 c28
          exact gr_v (w := wX ad ca K) (u := u26) hx hb hr hlocks h hP hK hD hS dX0_performAndEnd_129
        · have h := h.2 c28
          refine gq_aload_n (r := r27) hx hb dX0_performAndEnd_110 rfl (lv_at hl 0 rfl) ?_
          rcases r27 with _ | y29
          · have h := h.1 rfl
            refine lv_ifnullN (tgt := 129) hx hb dX0_performAndEnd_111 (by decide) ?_
            exact gr_v (w := wX ad ca K) (u := u26) hx hb hr hlocks h hP hK hD hS dX0_performAndEnd_129
          · have h := h.2 y29 rfl
            refine lv_ifnull hx hb dX0_performAndEnd_111 ?_
            refine lv_aload_n hx hb dX0_performAndEnd_114 rfl (lv_at hl 0 rfl) ?_
            obtain ⟨hy30, h⟩ := h
            obtain ⟨k9, hk9⟩ := xJ_get hy30
            refine va_get (D := (dC, dI)) (ci := 5) (v := .int (sA u26 0 y29)) (C := RX5) (T := TX5) (N := 9) hx hb hts uwX5 hown hK hP k9 hk9 rfl 5 (by decide) (hts _ wd_327) (fun _ h9 => h9) rfl dX0_performAndEnd_115 ?_
            refine lv_if_ne (tgt := 129) hx hb dX0_performAndEnd_118 (by decide) (fun c31 => ?_) (fun c31 => ?_)
            · have h := h.1 c31
              exact gr_v (w := wX ad ca K) (u := u26) hx hb hr hlocks h hP hK hD hS dX0_performAndEnd_129
            · have h := h.2 c31
              refine lv_aload_n hx hb dX0_performAndEnd_121 rfl (lv_at hl 1 rfl) ?_
              refine lv_aload_n hx hb dX0_performAndEnd_122 rfl (lv_at hl 0 rfl) ?_
              refine lv_iload_n hx hb dX0_performAndEnd_123 rfl (lv_at hl 3 rfl) ?_
              refine lv_iconst (v := 1) hx hb dX0_performAndEnd_124 (by decide) ?_
              refine lv_iadd hx hb dX0_performAndEnd_125 ?_
              refine gc_v (w := wX ad ca K) (u := u26) (va_runV (As := [.ref y29, .int (p2 + 1)]) (rest := []) ⟨hx, hb, hml, hown, hts⟩ (hadm H.size u26 y29 (p2 + 1) _ hy30 h) (cwV 2 hts (gG_V wd_389 wd_391 wd_3 wd_46 wd_392) rfl rfl rfl (by decide +kernel) (rmN_le (k := 4 * n + 4) (by omega) (by decide))) ⟨gB_blind xE_ok, va_recv hK hP (ci := 0) (q0 := 0) rfl rfl, gB_pre xE_ok hP hK hD hE hS hA⟩ rfl rfl hl.1 rfl (lv_room (Nat.le_of_ble_eq_true rfl)) dX0_performAndEnd_126 ⟨Nat.le_of_ble_eq_true rfl, Nat.le_of_ble_eq_true rfl⟩) hD hS hA (fun u33 H locs h hP hD hS => ?_)
              exact gr_v (w := wX ad ca K) (u := u33) hx hb hr hlocks h hP hK hD hS dX0_performAndEnd_129
      · have h := h.2 c23
        by_cases c34 : (K.2.2.2.1 p1 1) = 3
        · have h := h.1 c34
          have e67 : (K.2.2.2.1 p1 1).toInt = 3 := by rw [c34]; rfl
          refine lv_tableIn (off := 61) (tgt := 65) hx hb dX0_performAndEnd_4 (by rw [e67]; decide) (by rw [e67]; decide) (by rw [e67]; rfl) (by decide) ?_
          refine lv_aload_n hx hb dX0_performAndEnd_65 rfl (lv_at hl 0 rfl) ?_
          refine lv_aload_n hx hb dX0_performAndEnd_66 rfl (lv_at hl 1 rfl) ?_
          refine gc_v (w := wX ad ca K) (u := u) (va_runV (As := [.ref p1]) (rest := []) ⟨hx, hb, hml, hown, hts⟩ (cX0_sum l dC dI ad ca K H.size u p1 _ hp1 h) (cwV 1 hts (gG_V wd_450 wd_452 wd_6 wd_46 wd_453) rfl rfl rfl (by decide +kernel) (rmN_le (k := 2) (by omega) (by decide))) ⟨gB_blind xE_ok, va_recv hK hP (ci := 0) (q0 := 0) rfl rfl, gB_pre xE_ok hP hK hD hE hS hA⟩ rfl rfl hl.1 rfl (lv_room (Nat.le_of_ble_eq_true rfl)) dX0_performAndEnd_67 ⟨Nat.le_of_ble_eq_true rfl, Nat.le_of_ble_eq_true rfl⟩) hD hS hA (fun u36 H locs h hP hD hS => ?_)
          refine lv_goto (tgt := 87) hx hb dX0_performAndEnd_70 (by decide) ?_
          refine lv_aload_n hx hb dX0_performAndEnd_87 rfl (lv_at hl 0 rfl) ?_
          refine lv_dup hx hb dX0_performAndEnd_88 rfl ?_
          refine va_get (D := (dC, dI)) (ci := 0) (v := .int (sI u36 1)) (C := RX0) (T := TX0) (N := 12) hx hb hts uwX0 hown hK hP 0 rfl rfl 10 (by decide) (hts _ wd_182) (fun _ h9 => h9) rfl dX0_performAndEnd_89 ?_
          refine lv_iconst (v := 1) hx hb dX0_performAndEnd_92 (by decide) ?_
          refine lv_iadd hx hb dX0_performAndEnd_93 ?_
          refine va_put (D := (dC, dI)) (ci := 0) (v := .int ((sI u36 1) + 1)) (ty := tyX0 10) (C := RX0) (T := TX0) (N := 12) hx hb hts uwX0 tyX0 tyX0_ok nmX0 hown hK hP hD hS 0 rfl rfl 10 (by decide) (hts _ wd_182) (fun _ h9 => h9) rfl (tyX0_ok 10 (by decide)) rfl rfl (Nat.le_of_ble_eq_true rfl) dX0_performAndEnd_94 (fun H locs hP hD hS => ?_)
          obtain ⟨u37, eu37⟩ : ∃ z : gS, z = tI u36 1 ((sI u36 1) + 1) := ⟨_, rfl⟩
          have hP : va_P (dC, dI) vwCl (wX ad ca K u37) H := by rw [eu37, wX_f0_finished]; exact hP
          have hD : va_D A (wX ad ca K u37) := by rw [eu37, wX_f0_finished]; exact hD
          have h := h u37 eu37
          refine lv_aload_n hx hb dX0_performAndEnd_97 rfl (lv_at hl 1 rfl) ?_
          obtain ⟨k9, hk9⟩ := xJ_get hp1
          refine va_get (D := (dC, dI)) (ci := 5) (v := va_rf (sQ u37 3 p1)) (C := RX5) (T := TX5) (N := 9) hx hb hts uwX5 hown hK hP k9 hk9 rfl 8 (by decide) (hts _ wd_335) (fun _ h9 => h9) rfl dX0_performAndEnd_98 ?_
          refine gq_top (fun r38 er38 => ?_)
          have h := h r38 er38
          refine gq_astore_n (r := r38) (lv' := [(3, va_rf r38), (0, .ref (ad 0)), (1, .ref p1), (2, .int p2)]) hx hb dX0_performAndEnd_101 rfl hl (by decide) rfl (fun ls hl => ?_)
          refine lv_aload_n hx hb dX0_performAndEnd_102 rfl (lv_at hl 2 rfl) ?_
          obtain ⟨k9, hk9⟩ := xJ_get hp1
          refine va_get (D := (dC, dI)) (ci := 5) (v := .int (sA u37 0 p1)) (C := RX5) (T := TX5) (N := 9) hx hb hts uwX5 hown hK hP k9 hk9 rfl 5 (by decide) (hts _ wd_327) (fun _ h9 => h9) rfl dX0_performAndEnd_103 ?_
          refine lv_iconst (v := 3) hx hb dX0_performAndEnd_106 (by decide) ?_
          refine lv_icmp_ne (tgt := 129) hx hb dX0_performAndEnd_107 (by decide) (fun c39 => ?_) (fun c39 => ?_)
          · have h := h.1 c39
            exact gr_v (w := wX ad ca K) (u := u37) hx hb hr hlocks h hP hK hD hS dX0_performAndEnd_129
          · have h := h.2 c39
            refine gq_aload_n (r := r38) hx hb dX0_performAndEnd_110 rfl (lv_at hl 0 rfl) ?_
            rcases r38 with _ | y40
            · have h := h.1 rfl
              refine lv_ifnullN (tgt := 129) hx hb dX0_performAndEnd_111 (by decide) ?_
              exact gr_v (w := wX ad ca K) (u := u37) hx hb hr hlocks h hP hK hD hS dX0_performAndEnd_129
            · have h := h.2 y40 rfl
              refine lv_ifnull hx hb dX0_performAndEnd_111 ?_
              refine lv_aload_n hx hb dX0_performAndEnd_114 rfl (lv_at hl 0 rfl) ?_
              obtain ⟨hy41, h⟩ := h
              obtain ⟨k9, hk9⟩ := xJ_get hy41
              refine va_get (D := (dC, dI)) (ci := 5) (v := .int (sA u37 0 y40)) (C := RX5) (T := TX5) (N := 9) hx hb hts uwX5 hown hK hP k9 hk9 rfl 5 (by decide) (hts _ wd_327) (fun _ h9 => h9) rfl dX0_performAndEnd_115 ?_
              refine lv_if_ne (tgt := 129) hx hb dX0_performAndEnd_118 (by decide) (fun c42 => ?_) (fun c42 => ?_)
              · have h := h.1 c42
                exact gr_v (w := wX ad ca K) (u := u37) hx hb hr hlocks h hP hK hD hS dX0_performAndEnd_129
              · have h := h.2 c42
                refine lv_aload_n hx hb dX0_performAndEnd_121 rfl (lv_at hl 1 rfl) ?_
                refine lv_aload_n hx hb dX0_performAndEnd_122 rfl (lv_at hl 0 rfl) ?_
                refine lv_iload_n hx hb dX0_performAndEnd_123 rfl (lv_at hl 3 rfl) ?_
                refine lv_iconst (v := 1) hx hb dX0_performAndEnd_124 (by decide) ?_
                refine lv_iadd hx hb dX0_performAndEnd_125 ?_
                refine gc_v (w := wX ad ca K) (u := u37) (va_runV (As := [.ref y40, .int (p2 + 1)]) (rest := []) ⟨hx, hb, hml, hown, hts⟩ (hadm H.size u37 y40 (p2 + 1) _ hy41 h) (cwV 2 hts (gG_V wd_389 wd_391 wd_3 wd_46 wd_392) rfl rfl rfl (by decide +kernel) (rmN_le (k := 4 * n + 4) (by omega) (by decide))) ⟨gB_blind xE_ok, va_recv hK hP (ci := 0) (q0 := 0) rfl rfl, gB_pre xE_ok hP hK hD hE hS hA⟩ rfl rfl hl.1 rfl (lv_room (Nat.le_of_ble_eq_true rfl)) dX0_performAndEnd_126 ⟨Nat.le_of_ble_eq_true rfl, Nat.le_of_ble_eq_true rfl⟩) hD hS hA (fun u44 H locs h hP hD hS => ?_)
                exact gr_v (w := wX ad ca K) (u := u44) hx hb hr hlocks h hP hK hD hS dX0_performAndEnd_129
        · have h := h.2 c34
          by_cases c45 : (K.2.2.2.1 p1 1) = 4
          · have h := h.1 c45
            have e66 : (K.2.2.2.1 p1 1).toInt = 4 := by rw [c45]; rfl
            refine lv_tableIn (off := 69) (tgt := 73) hx hb dX0_performAndEnd_4 (by rw [e66]; decide) (by rw [e66]; decide) (by rw [e66]; rfl) (by decide) ?_
            refine lv_aload_n hx hb dX0_performAndEnd_73 rfl (lv_at hl 0 rfl) ?_
            refine lv_aload_n hx hb dX0_performAndEnd_74 rfl (lv_at hl 1 rfl) ?_
            refine lv_iload_n hx hb dX0_performAndEnd_75 rfl (lv_at hl 2 rfl) ?_
            refine gc_v (w := wX ad ca K) (u := u) (va_runV (As := [.ref p1, .int p2]) (rest := []) ⟨hx, hb, hml, hown, hts⟩ (cX0_fork l dC dI ad ca K n adm H.size u p1 p2 _ hp1 h hadm) (cwV 2 hts (gG_V wd_455 wd_457 wd_7 wd_46 wd_458) rfl rfl rfl (by decide +kernel) (rmN_le (k := 4 * n + 5) (by omega) (by decide))) ⟨gB_blind xE_ok, va_recv hK hP (ci := 0) (q0 := 0) rfl rfl, gB_pre xE_ok hP hK hD hE hS hA⟩ rfl rfl hl.1 rfl (lv_room (Nat.le_of_ble_eq_true rfl)) dX0_performAndEnd_76 ⟨Nat.le_of_ble_eq_true rfl, Nat.le_of_ble_eq_true rfl⟩) hD hS hA (fun u47 H locs h hP hD hS => ?_)
            refine lv_goto (tgt := 87) hx hb dX0_performAndEnd_79 (by decide) ?_
            refine lv_aload_n hx hb dX0_performAndEnd_87 rfl (lv_at hl 0 rfl) ?_
            refine lv_dup hx hb dX0_performAndEnd_88 rfl ?_
            refine va_get (D := (dC, dI)) (ci := 0) (v := .int (sI u47 1)) (C := RX0) (T := TX0) (N := 12) hx hb hts uwX0 hown hK hP 0 rfl rfl 10 (by decide) (hts _ wd_182) (fun _ h9 => h9) rfl dX0_performAndEnd_89 ?_
            refine lv_iconst (v := 1) hx hb dX0_performAndEnd_92 (by decide) ?_
            refine lv_iadd hx hb dX0_performAndEnd_93 ?_
            refine va_put (D := (dC, dI)) (ci := 0) (v := .int ((sI u47 1) + 1)) (ty := tyX0 10) (C := RX0) (T := TX0) (N := 12) hx hb hts uwX0 tyX0 tyX0_ok nmX0 hown hK hP hD hS 0 rfl rfl 10 (by decide) (hts _ wd_182) (fun _ h9 => h9) rfl (tyX0_ok 10 (by decide)) rfl rfl (Nat.le_of_ble_eq_true rfl) dX0_performAndEnd_94 (fun H locs hP hD hS => ?_)
            obtain ⟨u48, eu48⟩ : ∃ z : gS, z = tI u47 1 ((sI u47 1) + 1) := ⟨_, rfl⟩
            have hP : va_P (dC, dI) vwCl (wX ad ca K u48) H := by rw [eu48, wX_f0_finished]; exact hP
            have hD : va_D A (wX ad ca K u48) := by rw [eu48, wX_f0_finished]; exact hD
            have h := h u48 eu48
            refine lv_aload_n hx hb dX0_performAndEnd_97 rfl (lv_at hl 1 rfl) ?_
            obtain ⟨k9, hk9⟩ := xJ_get hp1
            refine va_get (D := (dC, dI)) (ci := 5) (v := va_rf (sQ u48 3 p1)) (C := RX5) (T := TX5) (N := 9) hx hb hts uwX5 hown hK hP k9 hk9 rfl 8 (by decide) (hts _ wd_335) (fun _ h9 => h9) rfl dX0_performAndEnd_98 ?_
            refine gq_top (fun r49 er49 => ?_)
            have h := h r49 er49
            refine gq_astore_n (r := r49) (lv' := [(3, va_rf r49), (0, .ref (ad 0)), (1, .ref p1), (2, .int p2)]) hx hb dX0_performAndEnd_101 rfl hl (by decide) rfl (fun ls hl => ?_)
            refine lv_aload_n hx hb dX0_performAndEnd_102 rfl (lv_at hl 2 rfl) ?_
            obtain ⟨k9, hk9⟩ := xJ_get hp1
            refine va_get (D := (dC, dI)) (ci := 5) (v := .int (sA u48 0 p1)) (C := RX5) (T := TX5) (N := 9) hx hb hts uwX5 hown hK hP k9 hk9 rfl 5 (by decide) (hts _ wd_327) (fun _ h9 => h9) rfl dX0_performAndEnd_103 ?_
            refine lv_iconst (v := 3) hx hb dX0_performAndEnd_106 (by decide) ?_
            refine lv_icmp_ne (tgt := 129) hx hb dX0_performAndEnd_107 (by decide) (fun c50 => ?_) (fun c50 => ?_)
            · have h := h.1 c50
              exact gr_v (w := wX ad ca K) (u := u48) hx hb hr hlocks h hP hK hD hS dX0_performAndEnd_129
            · have h := h.2 c50
              refine gq_aload_n (r := r49) hx hb dX0_performAndEnd_110 rfl (lv_at hl 0 rfl) ?_
              rcases r49 with _ | y51
              · have h := h.1 rfl
                refine lv_ifnullN (tgt := 129) hx hb dX0_performAndEnd_111 (by decide) ?_
                exact gr_v (w := wX ad ca K) (u := u48) hx hb hr hlocks h hP hK hD hS dX0_performAndEnd_129
              · have h := h.2 y51 rfl
                refine lv_ifnull hx hb dX0_performAndEnd_111 ?_
                refine lv_aload_n hx hb dX0_performAndEnd_114 rfl (lv_at hl 0 rfl) ?_
                obtain ⟨hy52, h⟩ := h
                obtain ⟨k9, hk9⟩ := xJ_get hy52
                refine va_get (D := (dC, dI)) (ci := 5) (v := .int (sA u48 0 y51)) (C := RX5) (T := TX5) (N := 9) hx hb hts uwX5 hown hK hP k9 hk9 rfl 5 (by decide) (hts _ wd_327) (fun _ h9 => h9) rfl dX0_performAndEnd_115 ?_
                refine lv_if_ne (tgt := 129) hx hb dX0_performAndEnd_118 (by decide) (fun c53 => ?_) (fun c53 => ?_)
                · have h := h.1 c53
                  exact gr_v (w := wX ad ca K) (u := u48) hx hb hr hlocks h hP hK hD hS dX0_performAndEnd_129
                · have h := h.2 c53
                  refine lv_aload_n hx hb dX0_performAndEnd_121 rfl (lv_at hl 1 rfl) ?_
                  refine lv_aload_n hx hb dX0_performAndEnd_122 rfl (lv_at hl 0 rfl) ?_
                  refine lv_iload_n hx hb dX0_performAndEnd_123 rfl (lv_at hl 3 rfl) ?_
                  refine lv_iconst (v := 1) hx hb dX0_performAndEnd_124 (by decide) ?_
                  refine lv_iadd hx hb dX0_performAndEnd_125 ?_
                  refine gc_v (w := wX ad ca K) (u := u48) (va_runV (As := [.ref y51, .int (p2 + 1)]) (rest := []) ⟨hx, hb, hml, hown, hts⟩ (hadm H.size u48 y51 (p2 + 1) _ hy52 h) (cwV 2 hts (gG_V wd_389 wd_391 wd_3 wd_46 wd_392) rfl rfl rfl (by decide +kernel) (rmN_le (k := 4 * n + 4) (by omega) (by decide))) ⟨gB_blind xE_ok, va_recv hK hP (ci := 0) (q0 := 0) rfl rfl, gB_pre xE_ok hP hK hD hE hS hA⟩ rfl rfl hl.1 rfl (lv_room (Nat.le_of_ble_eq_true rfl)) dX0_performAndEnd_126 ⟨Nat.le_of_ble_eq_true rfl, Nat.le_of_ble_eq_true rfl⟩) hD hS hA (fun u55 H locs h hP hD hS => ?_)
                  exact gr_v (w := wX ad ca K) (u := u55) hx hb hr hlocks h hP hK hD hS dX0_performAndEnd_129
          · have h := h.2 c45
            refine lv_tableOut (tgt := 82) hx hb dX0_performAndEnd_4 (by have a0 := lv_neT (a := 0) c1 rfl; have a1 := lv_neT (a := 1) c12 rfl; have a2 := lv_neT (a := 2) c23 rfl; have a3 := lv_neT (a := 3) c34 rfl; have a4 := lv_neT (a := 4) c45 rfl; omega) (by decide) ?_
            refine lv_aload_n hx hb dX0_performAndEnd_82 rfl (lv_at hl 1 rfl) ?_
            refine lv_iconst (v := 5) hx hb dX0_performAndEnd_83 (by decide) ?_
            refine gc_v (w := wX ad ca K) (u := u) (va_runV (As := [.int 5]) (rest := []) ⟨hx, hb, hml, hown, hts⟩ (cX5_fail l dC dI ad ca K H.size u p1 5 _ hp1 h) (cwV 1 hts (gG_V wd_454 wd_440 wd_441 wd_58 wd_442) rfl rfl rfl (by decide +kernel) (rmN_le (k := 1) (by omega) (by decide))) ⟨gB_blind xE_ok, (by obtain ⟨k9, hk9⟩ := xJ_get hp1; exact va_recv hK hP (ci := 5) (q0 := k9) rfl hk9), gB_pre xE_ok hP hK hD hE hS hA⟩ rfl rfl hl.1 rfl (lv_room (Nat.le_of_ble_eq_true rfl)) dX0_performAndEnd_84 ⟨Nat.le_of_ble_eq_true rfl, Nat.le_of_ble_eq_true rfl⟩) hD hS hA (fun u57 H locs h hP hD hS => ?_)
            refine lv_aload_n hx hb dX0_performAndEnd_87 rfl (lv_at hl 0 rfl) ?_
            refine lv_dup hx hb dX0_performAndEnd_88 rfl ?_
            refine va_get (D := (dC, dI)) (ci := 0) (v := .int (sI u57 1)) (C := RX0) (T := TX0) (N := 12) hx hb hts uwX0 hown hK hP 0 rfl rfl 10 (by decide) (hts _ wd_182) (fun _ h9 => h9) rfl dX0_performAndEnd_89 ?_
            refine lv_iconst (v := 1) hx hb dX0_performAndEnd_92 (by decide) ?_
            refine lv_iadd hx hb dX0_performAndEnd_93 ?_
            refine va_put (D := (dC, dI)) (ci := 0) (v := .int ((sI u57 1) + 1)) (ty := tyX0 10) (C := RX0) (T := TX0) (N := 12) hx hb hts uwX0 tyX0 tyX0_ok nmX0 hown hK hP hD hS 0 rfl rfl 10 (by decide) (hts _ wd_182) (fun _ h9 => h9) rfl (tyX0_ok 10 (by decide)) rfl rfl (Nat.le_of_ble_eq_true rfl) dX0_performAndEnd_94 (fun H locs hP hD hS => ?_)
            obtain ⟨u58, eu58⟩ : ∃ z : gS, z = tI u57 1 ((sI u57 1) + 1) := ⟨_, rfl⟩
            have hP : va_P (dC, dI) vwCl (wX ad ca K u58) H := by rw [eu58, wX_f0_finished]; exact hP
            have hD : va_D A (wX ad ca K u58) := by rw [eu58, wX_f0_finished]; exact hD
            have h := h u58 eu58
            refine lv_aload_n hx hb dX0_performAndEnd_97 rfl (lv_at hl 1 rfl) ?_
            obtain ⟨k9, hk9⟩ := xJ_get hp1
            refine va_get (D := (dC, dI)) (ci := 5) (v := va_rf (sQ u58 3 p1)) (C := RX5) (T := TX5) (N := 9) hx hb hts uwX5 hown hK hP k9 hk9 rfl 8 (by decide) (hts _ wd_335) (fun _ h9 => h9) rfl dX0_performAndEnd_98 ?_
            refine gq_top (fun r59 er59 => ?_)
            have h := h r59 er59
            refine gq_astore_n (r := r59) (lv' := [(3, va_rf r59), (0, .ref (ad 0)), (1, .ref p1), (2, .int p2)]) hx hb dX0_performAndEnd_101 rfl hl (by decide) rfl (fun ls hl => ?_)
            refine lv_aload_n hx hb dX0_performAndEnd_102 rfl (lv_at hl 2 rfl) ?_
            obtain ⟨k9, hk9⟩ := xJ_get hp1
            refine va_get (D := (dC, dI)) (ci := 5) (v := .int (sA u58 0 p1)) (C := RX5) (T := TX5) (N := 9) hx hb hts uwX5 hown hK hP k9 hk9 rfl 5 (by decide) (hts _ wd_327) (fun _ h9 => h9) rfl dX0_performAndEnd_103 ?_
            refine lv_iconst (v := 3) hx hb dX0_performAndEnd_106 (by decide) ?_
            refine lv_icmp_ne (tgt := 129) hx hb dX0_performAndEnd_107 (by decide) (fun c60 => ?_) (fun c60 => ?_)
            · have h := h.1 c60
              exact gr_v (w := wX ad ca K) (u := u58) hx hb hr hlocks h hP hK hD hS dX0_performAndEnd_129
            · have h := h.2 c60
              refine gq_aload_n (r := r59) hx hb dX0_performAndEnd_110 rfl (lv_at hl 0 rfl) ?_
              rcases r59 with _ | y61
              · have h := h.1 rfl
                refine lv_ifnullN (tgt := 129) hx hb dX0_performAndEnd_111 (by decide) ?_
                exact gr_v (w := wX ad ca K) (u := u58) hx hb hr hlocks h hP hK hD hS dX0_performAndEnd_129
              · have h := h.2 y61 rfl
                refine lv_ifnull hx hb dX0_performAndEnd_111 ?_
                refine lv_aload_n hx hb dX0_performAndEnd_114 rfl (lv_at hl 0 rfl) ?_
                obtain ⟨hy62, h⟩ := h
                obtain ⟨k9, hk9⟩ := xJ_get hy62
                refine va_get (D := (dC, dI)) (ci := 5) (v := .int (sA u58 0 y61)) (C := RX5) (T := TX5) (N := 9) hx hb hts uwX5 hown hK hP k9 hk9 rfl 5 (by decide) (hts _ wd_327) (fun _ h9 => h9) rfl dX0_performAndEnd_115 ?_
                refine lv_if_ne (tgt := 129) hx hb dX0_performAndEnd_118 (by decide) (fun c63 => ?_) (fun c63 => ?_)
                · have h := h.1 c63
                  exact gr_v (w := wX ad ca K) (u := u58) hx hb hr hlocks h hP hK hD hS dX0_performAndEnd_129
                · have h := h.2 c63
                  refine lv_aload_n hx hb dX0_performAndEnd_121 rfl (lv_at hl 1 rfl) ?_
                  refine lv_aload_n hx hb dX0_performAndEnd_122 rfl (lv_at hl 0 rfl) ?_
                  refine lv_iload_n hx hb dX0_performAndEnd_123 rfl (lv_at hl 3 rfl) ?_
                  refine lv_iconst (v := 1) hx hb dX0_performAndEnd_124 (by decide) ?_
                  refine lv_iadd hx hb dX0_performAndEnd_125 ?_
                  refine gc_v (w := wX ad ca K) (u := u58) (va_runV (As := [.ref y61, .int (p2 + 1)]) (rest := []) ⟨hx, hb, hml, hown, hts⟩ (hadm H.size u58 y61 (p2 + 1) _ hy62 h) (cwV 2 hts (gG_V wd_389 wd_391 wd_3 wd_46 wd_392) rfl rfl rfl (by decide +kernel) (rmN_le (k := 4 * n + 4) (by omega) (by decide))) ⟨gB_blind xE_ok, va_recv hK hP (ci := 0) (q0 := 0) rfl rfl, gB_pre xE_ok hP hK hD hE hS hA⟩ rfl rfl hl.1 rfl (lv_room (Nat.le_of_ble_eq_true rfl)) dX0_performAndEnd_126 ⟨Nat.le_of_ble_eq_true rfl, Nat.le_of_ble_eq_true rfl⟩) hD hS hA (fun u65 H locs h hP hD hS => ?_)
                  exact gr_v (w := wX ad ca K) (u := u65) hx hb hr hlocks h hP hK hD hS dX0_performAndEnd_129

theorem dX0_turnAway_0 : decode prog_1_method_23_code 0 = .ok (.aload_n 0, 1) := by decide +kernel
theorem dX0_turnAway_1 : decode prog_1_method_23_code 1 = .ok (.getfield 69, 3) := by decide +kernel
theorem dX0_turnAway_4 : decode prog_1_method_23_code 4 = .ok (.tableswitch 86 0 2 #[28, 37, 45], 28) := by decide +kernel
theorem dX0_turnAway_32 : decode prog_1_method_23_code 32 = .ok (.aload_n 1, 1) := by decide +kernel
theorem dX0_turnAway_33 : decode prog_1_method_23_code 33 = .ok (.bipush 6, 2) := by decide +kernel
theorem dX0_turnAway_35 : decode prog_1_method_23_code 35 = .ok (.putfield 90, 3) := by decide +kernel
theorem dX0_turnAway_38 : decode prog_1_method_23_code 38 = .ok (.goto 63, 3) := by decide +kernel
theorem dX0_turnAway_41 : decode prog_1_method_23_code 41 = .ok (.aload_n 1, 1) := by decide +kernel
theorem dX0_turnAway_42 : decode prog_1_method_23_code 42 = .ok (.iconst 5, 1) := by decide +kernel
theorem dX0_turnAway_43 : decode prog_1_method_23_code 43 = .ok (.putfield 90, 3) := by decide +kernel
theorem dX0_turnAway_46 : decode prog_1_method_23_code 46 = .ok (.goto 55, 3) := by decide +kernel
theorem dX0_turnAway_49 : decode prog_1_method_23_code 49 = .ok (.aload_n 0, 1) := by decide +kernel
theorem dX0_turnAway_50 : decode prog_1_method_23_code 50 = .ok (.getfield 25, 3) := by decide +kernel
theorem dX0_turnAway_53 : decode prog_1_method_23_code 53 = .ok (.iconst 0, 1) := by decide +kernel
theorem dX0_turnAway_54 : decode prog_1_method_23_code 54 = .ok (.invokevirtual 131, 3) := by decide +kernel
theorem dX0_turnAway_57 : decode prog_1_method_23_code 57 = .ok (.astore_n 3, 1) := by decide +kernel
theorem dX0_turnAway_58 : decode prog_1_method_23_code 58 = .ok (.aload_n 3, 1) := by decide +kernel
theorem dX0_turnAway_59 : decode prog_1_method_23_code 59 = .ok (.ifnonnull 11, 3) := by decide +kernel
theorem dX0_turnAway_62 : decode prog_1_method_23_code 62 = .ok (.aload_n 1, 1) := by decide +kernel
theorem dX0_turnAway_63 : decode prog_1_method_23_code 63 = .ok (.iconst 5, 1) := by decide +kernel
theorem dX0_turnAway_64 : decode prog_1_method_23_code 64 = .ok (.putfield 90, 3) := by decide +kernel
theorem dX0_turnAway_67 : decode prog_1_method_23_code 67 = .ok (.goto 34, 3) := by decide +kernel
theorem dX0_turnAway_70 : decode prog_1_method_23_code 70 = .ok (.aload_n 3, 1) := by decide +kernel
theorem dX0_turnAway_71 : decode prog_1_method_23_code 71 = .ok (.iconst 5, 1) := by decide +kernel
theorem dX0_turnAway_72 : decode prog_1_method_23_code 72 = .ok (.putfield 90, 3) := by decide +kernel
theorem dX0_turnAway_75 : decode prog_1_method_23_code 75 = .ok (.aload_n 0, 1) := by decide +kernel
theorem dX0_turnAway_76 : decode prog_1_method_23_code 76 = .ok (.getfield 25, 3) := by decide +kernel
theorem dX0_turnAway_79 : decode prog_1_method_23_code 79 = .ok (.aload_n 1, 1) := by decide +kernel
theorem dX0_turnAway_80 : decode prog_1_method_23_code 80 = .ok (.aload_n 0, 1) := by decide +kernel
theorem dX0_turnAway_81 : decode prog_1_method_23_code 81 = .ok (.getfield 46, 3) := by decide +kernel
theorem dX0_turnAway_84 : decode prog_1_method_23_code 84 = .ok (.invokevirtual 257, 3) := by decide +kernel
theorem dX0_turnAway_87 : decode prog_1_method_23_code 87 = .ok (.goto 14, 3) := by decide +kernel
theorem dX0_turnAway_90 : decode prog_1_method_23_code 90 = .ok (.aload_n 1, 1) := by decide +kernel
theorem dX0_turnAway_91 : decode prog_1_method_23_code 91 = .ok (.iconst 2, 1) := by decide +kernel
theorem dX0_turnAway_92 : decode prog_1_method_23_code 92 = .ok (.putfield 90, 3) := by decide +kernel
theorem dX0_turnAway_95 : decode prog_1_method_23_code 95 = .ok (.aload_n 0, 1) := by decide +kernel
theorem dX0_turnAway_96 : decode prog_1_method_23_code 96 = .ok (.aload_n 1, 1) := by decide +kernel
theorem dX0_turnAway_97 : decode prog_1_method_23_code 97 = .ok (.iload_n 2, 1) := by decide +kernel
theorem dX0_turnAway_98 : decode prog_1_method_23_code 98 = .ok (.invokevirtual 264, 3) := by decide +kernel
theorem dX0_turnAway_101 : decode prog_1_method_23_code 101 = .ok (.return_, 1) := by decide +kernel
def wpX0_turnAway (K : KX) (adm : KX → (gS → Prop) → gS → Nat → Int32 → Prop) (post : gS → Prop) (u : gS) (p1 : Nat) (p2 : Int32) : Prop :=
  (((K.1 3) = 0 → (∀ u2 : gS, u2 = tA u 0 p1 6 → (post u2))) ∧ (¬ (K.1 3) = 0 → ((((K.1 3) = 1 → (∀ u4 : gS, u4 = tA u 0 p1 5 → (post u4))) ∧ (¬ (K.1 3) = 1 → ((((K.1 3) = 2 → (wpX2_removeAt K (fun (r6 : Option Nat) (u7 : gS) => ((r6 = none → (∀ u9 : gS, u9 = tA u7 0 p1 5 → (post u9))) ∧ (∀ y8 : Nat, r6 = some y8 → (y8 ∈ K.2.2.1 ∧ (∀ u11 : gS, u11 = tA u7 0 y8 5 → (wpX2_add K (fun (u13 : gS) => post u13) u11 p1 (sD u11 0))))))) u 0)) ∧ (¬ (K.1 3) = 2 → (∀ u14 : gS, u14 = tA u 0 p1 2 → (wpX0_performAndEnd K adm (fun (u16 : gS) => post u16) u14 p1 p2))))))))))

set_option maxHeartbeats 8000000 in
set_option maxRecDepth 100000 in
theorem cX0_turnAway (l : Launch) (dC : Nat → ClassId) (dI : Nat → Nat → Nat) (ad : Nat → Nat) (ca : Nat → ClassId) (K : KX) (n : Nat) (adm : KX → (gS → Prop) → gS → Nat → Int32 → Prop) (sz : Nat) (u : gS) (p1 : Nat) (p2 : Int32) (post : gS → Prop) (hp1 : p1 ∈ K.2.2.1) (h : wpX0_turnAway K adm post u p1 p2) (hadm : ∀ (sz : Nat) (u : gS) (p1 : Nat) (p2 : Int32) (post : gS → Prop), p1 ∈ K.2.2.1 → adm K post u p1 p2 → Met l ⟨"WorkHall", "admit", "(LWorkHall$Job;I)V"⟩ (gw ⟨"WorkHall", "admit", "(LWorkHall$Job;I)V"⟩ prog_1_method_22_code 4 none) (rmN (4 * n + 4)) (va_Pc [.ref (ad 0), .ref p1, .int p2] (gB (dC, dI) vwCl (xT ca) xE (wX ad ca K u) sz)) (va_Qv post (gAt (dC, dI) vwCl (xT ca) (wX ad ca K) (va_A (wX ad ca K u) sz)) (va_A (wX ad ca K u) sz)) 0 0 (va_A (wX ad ca K u) sz)) : Met l ⟨"WorkHall", "turnAway", "(LWorkHall$Job;I)V"⟩ (gw ⟨"WorkHall", "turnAway", "(LWorkHall$Job;I)V"⟩ prog_1_method_23_code 4 none) (rmN (4 * n + 7)) (va_Pc [.ref (ad 0), .ref p1, .int p2] (gB (dC, dI) vwCl (xT ca) xE (wX ad ca K u) sz)) (va_Qv post (gAt (dC, dI) vwCl (xT ca) (wX ad ca K) (va_A (wX ad ca K u) sz)) (va_A (wX ad ca K u) sz)) 0 0 (va_A (wX ad ca K u) sz) := by
  refine Met.ofW (cc := prog_1_method_23_code) (maxL := 4) (ret := none) (by decide) rfl ?_
  intro p e s m args below meth c s₁ B hml hv
  obtain ⟨rfl, hsz, hP, hK, hD0, hE⟩ := hv
  have hx := B.exec
  have hb := B.bytes
  have hr := B.returns
  have hts : ∀ w ∈ gW, w.before _ s = true := fun w h9 => atoms_spec (ws := (gw ⟨"WorkHall", "turnAway", "(LWorkHall$Job;I)V"⟩ prog_1_method_23_code 4 none)) B.pre w (List.mem_cons_of_mem _ h9)
  have hown : s.vm.findClass RX0 = some m.cls := findClass_of_methodNamed B.named
  have hlocks := B.notSynchronized
  subst hsz
  have hD := hD0.self (sz := s.heap.size)
  generalize hAe : va_A (wX ad ca K u) s.heap.size = A at hD hE ⊢
  have hA : ∀ q : Nat, s.heap.size ≤ q → A q := fun q h => by rw [← hAe]; exact Or.inr h
  obtain ⟨H, hHe⟩ : ∃ z : Heap, z = s.heap := ⟨_, rfl⟩
  rw [← hHe]
  have hS : va_S A s.heap H [] := by rw [hHe]; exact va_S.rf
  have hP : va_P (dC, dI) vwCl (wX ad ca K u) H := by rw [hHe]; exact hP
  have hl := lv_entry ([.ref (ad 0), .ref p1, .int p2]) (n := 4) (Nat.le_of_ble_eq_true rfl)
  rw [lg_entry_eq]
  generalize (lg_sl ([.ref (ad 0), .ref p1, .int p2]) ++ List.replicate (4 - (lg_sl ([.ref (ad 0), .ref p1, .int p2])).length) Slot.unset).toArray = ls at hl ⊢
  have hl : lv_has ls 4 [(0, .ref (ad 0)), (1, .ref p1), (2, .int p2)] := hl
  clear hAe
  refine lv_aload_n hx hb dX0_turnAway_0 rfl (lv_at hl 0 rfl) ?_
  refine va_get (D := (dC, dI)) (ci := 0) (v := .int (K.1 3)) (C := RX0) (T := TX0) (N := 12) hx hb hts uwX0 hown hK hP 0 rfl rfl 3 (by decide) (hts _ wd_175) (fun _ h9 => h9) rfl dX0_turnAway_1 ?_
  by_cases c1 : (K.1 3) = 0
  · have h := h.1 c1
    have e19 : (K.1 3).toInt = 0 := by rw [c1]; rfl
    refine lv_tableIn (off := 28) (tgt := 32) hx hb dX0_turnAway_4 (by rw [e19]; decide) (by rw [e19]; decide) (by rw [e19]; rfl) (by decide) ?_
    refine lv_aload_n hx hb dX0_turnAway_32 rfl (lv_at hl 1 rfl) ?_
    refine lv_bipush (v := 6) hx hb dX0_turnAway_33 (by decide) ?_
    obtain ⟨k9, hk9⟩ := xJ_get hp1
    have e9 := xJ_state (v := 6) hD hp1 hk9
    refine va_put (D := (dC, dI)) (ci := 5) (v := .int 6) (ty := tyX5 5) (C := RX5) (T := TX5) (N := 9) hx hb hts uwX5 tyX5 tyX5_ok nmX5 hown hK hP hD hS k9 hk9 rfl 5 (by decide) (hts _ wd_327) (fun _ h9 => h9) rfl (tyX5_ok 5 (by decide)) rfl rfl (Nat.le_of_ble_eq_true rfl) dX0_turnAway_35 (fun H locs hP hD hS => ?_)
    obtain ⟨u2, eu2⟩ : ∃ z : gS, z = tA u 0 p1 6 := ⟨_, rfl⟩
    have hP : va_P (dC, dI) vwCl (wX ad ca K u2) H := by rw [eu2, ← e9]; exact hP
    have hD : va_D A (wX ad ca K u2) := by rw [eu2, ← e9]; exact hD
    have h := h u2 eu2
    refine lv_goto (tgt := 101) hx hb dX0_turnAway_38 (by decide) ?_
    exact gr_v (w := wX ad ca K) (u := u2) hx hb hr hlocks h hP hK hD hS dX0_turnAway_101
  · have h := h.2 c1
    by_cases c3 : (K.1 3) = 1
    · have h := h.1 c3
      have e18 : (K.1 3).toInt = 1 := by rw [c3]; rfl
      refine lv_tableIn (off := 37) (tgt := 41) hx hb dX0_turnAway_4 (by rw [e18]; decide) (by rw [e18]; decide) (by rw [e18]; rfl) (by decide) ?_
      refine lv_aload_n hx hb dX0_turnAway_41 rfl (lv_at hl 1 rfl) ?_
      refine lv_iconst (v := 5) hx hb dX0_turnAway_42 (by decide) ?_
      obtain ⟨k9, hk9⟩ := xJ_get hp1
      have e9 := xJ_state (v := 5) hD hp1 hk9
      refine va_put (D := (dC, dI)) (ci := 5) (v := .int 5) (ty := tyX5 5) (C := RX5) (T := TX5) (N := 9) hx hb hts uwX5 tyX5 tyX5_ok nmX5 hown hK hP hD hS k9 hk9 rfl 5 (by decide) (hts _ wd_327) (fun _ h9 => h9) rfl (tyX5_ok 5 (by decide)) rfl rfl (Nat.le_of_ble_eq_true rfl) dX0_turnAway_43 (fun H locs hP hD hS => ?_)
      obtain ⟨u4, eu4⟩ : ∃ z : gS, z = tA u 0 p1 5 := ⟨_, rfl⟩
      have hP : va_P (dC, dI) vwCl (wX ad ca K u4) H := by rw [eu4, ← e9]; exact hP
      have hD : va_D A (wX ad ca K u4) := by rw [eu4, ← e9]; exact hD
      have h := h u4 eu4
      refine lv_goto (tgt := 101) hx hb dX0_turnAway_46 (by decide) ?_
      exact gr_v (w := wX ad ca K) (u := u4) hx hb hr hlocks h hP hK hD hS dX0_turnAway_101
    · have h := h.2 c3
      by_cases c5 : (K.1 3) = 2
      · have h := h.1 c5
        have e17 : (K.1 3).toInt = 2 := by rw [c5]; rfl
        refine lv_tableIn (off := 45) (tgt := 49) hx hb dX0_turnAway_4 (by rw [e17]; decide) (by rw [e17]; decide) (by rw [e17]; rfl) (by decide) ?_
        refine lv_aload_n hx hb dX0_turnAway_49 rfl (lv_at hl 0 rfl) ?_
        refine va_get (D := (dC, dI)) (ci := 0) (v := .ref (ad 4)) (C := RX0) (T := TX0) (N := 12) hx hb hts uwX0 hown hK hP 0 rfl rfl 6 (by decide) (hts _ wd_178) (fun _ h9 => h9) rfl dX0_turnAway_50 ?_
        refine lv_iconst (v := 0) hx hb dX0_turnAway_53 (by decide) ?_
        refine gc_q (w := wX ad ca K) (u := u) (va_runV (As := [.int 0]) (rest := []) ⟨hx, hb, hml, hown, hts⟩ (cX2_removeAt l dC dI ad ca K H.size u 0 _ h) (cwV 1 hts (gG_V wd_423 wd_424 wd_425 wd_49 wd_426) rfl rfl rfl (by decide +kernel) (rmN_le (k := 1) (by omega) (by decide))) ⟨gB_blind xE_ok, va_recv hK hP (ci := 2) (q0 := 4) rfl rfl, gB_pre xE_ok hP hK hD hE hS hA⟩ rfl rfl hl.1 rfl (lv_room (Nat.le_of_ble_eq_true rfl)) dX0_turnAway_54 ⟨Nat.le_of_ble_eq_true rfl, Nat.le_of_ble_eq_true rfl⟩) hD hS hA (fun r6 u7 H locs h hP hD hS => ?_)
        refine gq_astore_n (r := r6) (lv' := [(3, va_rf r6), (0, .ref (ad 0)), (1, .ref p1), (2, .int p2)]) hx hb dX0_turnAway_57 rfl hl (by decide) rfl (fun ls hl => ?_)
        refine gq_aload_n (r := r6) hx hb dX0_turnAway_58 rfl (lv_at hl 0 rfl) ?_
        rcases r6 with _ | y8
        · have h := h.1 rfl
          refine lv_ifnonnullN hx hb dX0_turnAway_59 ?_
          refine lv_aload_n hx hb dX0_turnAway_62 rfl (lv_at hl 2 rfl) ?_
          refine lv_iconst (v := 5) hx hb dX0_turnAway_63 (by decide) ?_
          obtain ⟨k9, hk9⟩ := xJ_get hp1
          have e9 := xJ_state (v := 5) hD hp1 hk9
          refine va_put (D := (dC, dI)) (ci := 5) (v := .int 5) (ty := tyX5 5) (C := RX5) (T := TX5) (N := 9) hx hb hts uwX5 tyX5 tyX5_ok nmX5 hown hK hP hD hS k9 hk9 rfl 5 (by decide) (hts _ wd_327) (fun _ h9 => h9) rfl (tyX5_ok 5 (by decide)) rfl rfl (Nat.le_of_ble_eq_true rfl) dX0_turnAway_64 (fun H locs hP hD hS => ?_)
          obtain ⟨u9, eu9⟩ : ∃ z : gS, z = tA u7 0 p1 5 := ⟨_, rfl⟩
          have hP : va_P (dC, dI) vwCl (wX ad ca K u9) H := by rw [eu9, ← e9]; exact hP
          have hD : va_D A (wX ad ca K u9) := by rw [eu9, ← e9]; exact hD
          have h := h u9 eu9
          refine lv_goto (tgt := 101) hx hb dX0_turnAway_67 (by decide) ?_
          exact gr_v (w := wX ad ca K) (u := u9) hx hb hr hlocks h hP hK hD hS dX0_turnAway_101
        · have h := h.2 y8 rfl
          refine lv_ifnonnull (tgt := 70) hx hb dX0_turnAway_59 (by decide) ?_
          refine lv_aload_n hx hb dX0_turnAway_70 rfl (lv_at hl 0 rfl) ?_
          refine lv_iconst (v := 5) hx hb dX0_turnAway_71 (by decide) ?_
          obtain ⟨hy10, h⟩ := h
          obtain ⟨k9, hk9⟩ := xJ_get hy10
          have e9 := xJ_state (v := 5) hD hy10 hk9
          refine va_put (D := (dC, dI)) (ci := 5) (v := .int 5) (ty := tyX5 5) (C := RX5) (T := TX5) (N := 9) hx hb hts uwX5 tyX5 tyX5_ok nmX5 hown hK hP hD hS k9 hk9 rfl 5 (by decide) (hts _ wd_327) (fun _ h9 => h9) rfl (tyX5_ok 5 (by decide)) rfl rfl (Nat.le_of_ble_eq_true rfl) dX0_turnAway_72 (fun H locs hP hD hS => ?_)
          obtain ⟨u11, eu11⟩ : ∃ z : gS, z = tA u7 0 y8 5 := ⟨_, rfl⟩
          have hP : va_P (dC, dI) vwCl (wX ad ca K u11) H := by rw [eu11, ← e9]; exact hP
          have hD : va_D A (wX ad ca K u11) := by rw [eu11, ← e9]; exact hD
          have h := h u11 eu11
          refine lv_aload_n hx hb dX0_turnAway_75 rfl (lv_at hl 1 rfl) ?_
          refine va_get (D := (dC, dI)) (ci := 0) (v := .ref (ad 4)) (C := RX0) (T := TX0) (N := 12) hx hb hts uwX0 hown hK hP 0 rfl rfl 6 (by decide) (hts _ wd_178) (fun _ h9 => h9) rfl dX0_turnAway_76 ?_
          refine lv_aload_n hx hb dX0_turnAway_79 rfl (lv_at hl 2 rfl) ?_
          refine lv_aload_n hx hb dX0_turnAway_80 rfl (lv_at hl 1 rfl) ?_
          refine va_get (D := (dC, dI)) (ci := 0) (v := .double (sD u11 0)) (C := RX0) (T := TX0) (N := 12) hx hb hts uwX0 hown hK hP 0 rfl rfl 11 (by decide) (hts _ wd_183) (fun _ h9 => h9) rfl dX0_turnAway_81 ?_
          refine gc_v (w := wX ad ca K) (u := u11) (va_runV (As := [.ref p1, .double (sD u11 0)]) (rest := []) ⟨hx, hb, hml, hown, hts⟩ (cX2_add l dC dI ad ca K H.size u11 p1 (sD u11 0) _ hp1 h) (cwV 2 hts (gG_V wd_415 wd_416 wd_417 wd_49 wd_418) rfl rfl rfl (by decide +kernel) (rmN_le (k := 1) (by omega) (by decide))) ⟨gB_blind xE_ok, va_recv hK hP (ci := 2) (q0 := 4) rfl rfl, gB_pre xE_ok hP hK hD hE hS hA⟩ rfl rfl hl.1 rfl (lv_room (Nat.le_of_ble_eq_true rfl)) dX0_turnAway_84 ⟨Nat.le_of_ble_eq_true rfl, Nat.le_of_ble_eq_true rfl⟩) hD hS hA (fun u13 H locs h hP hD hS => ?_)
          refine lv_goto (tgt := 101) hx hb dX0_turnAway_87 (by decide) ?_
          exact gr_v (w := wX ad ca K) (u := u13) hx hb hr hlocks h hP hK hD hS dX0_turnAway_101
      · have h := h.2 c5
        refine lv_tableOut (tgt := 90) hx hb dX0_turnAway_4 (by have a0 := lv_neT (a := 0) c1 rfl; have a1 := lv_neT (a := 1) c3 rfl; have a2 := lv_neT (a := 2) c5 rfl; omega) (by decide) ?_
        refine lv_aload_n hx hb dX0_turnAway_90 rfl (lv_at hl 1 rfl) ?_
        refine lv_iconst (v := 2) hx hb dX0_turnAway_91 (by decide) ?_
        obtain ⟨k9, hk9⟩ := xJ_get hp1
        have e9 := xJ_state (v := 2) hD hp1 hk9
        refine va_put (D := (dC, dI)) (ci := 5) (v := .int 2) (ty := tyX5 5) (C := RX5) (T := TX5) (N := 9) hx hb hts uwX5 tyX5 tyX5_ok nmX5 hown hK hP hD hS k9 hk9 rfl 5 (by decide) (hts _ wd_327) (fun _ h9 => h9) rfl (tyX5_ok 5 (by decide)) rfl rfl (Nat.le_of_ble_eq_true rfl) dX0_turnAway_92 (fun H locs hP hD hS => ?_)
        obtain ⟨u14, eu14⟩ : ∃ z : gS, z = tA u 0 p1 2 := ⟨_, rfl⟩
        have hP : va_P (dC, dI) vwCl (wX ad ca K u14) H := by rw [eu14, ← e9]; exact hP
        have hD : va_D A (wX ad ca K u14) := by rw [eu14, ← e9]; exact hD
        have h := h u14 eu14
        refine lv_aload_n hx hb dX0_turnAway_95 rfl (lv_at hl 0 rfl) ?_
        refine lv_aload_n hx hb dX0_turnAway_96 rfl (lv_at hl 1 rfl) ?_
        refine lv_iload_n hx hb dX0_turnAway_97 rfl (lv_at hl 2 rfl) ?_
        refine gc_v (w := wX ad ca K) (u := u14) (va_runV (As := [.ref p1, .int p2]) (rest := []) ⟨hx, hb, hml, hown, hts⟩ (cX0_performAndEnd l dC dI ad ca K n adm H.size u14 p1 p2 _ hp1 h hadm) (cwV 2 hts (gG_V wd_427 wd_429 wd_5 wd_46 wd_430) rfl rfl rfl (by decide +kernel) (rmN_le (k := 4 * n + 6) (by omega) (by decide))) ⟨gB_blind xE_ok, va_recv hK hP (ci := 0) (q0 := 0) rfl rfl, gB_pre xE_ok hP hK hD hE hS hA⟩ rfl rfl hl.1 rfl (lv_room (Nat.le_of_ble_eq_true rfl)) dX0_turnAway_98 ⟨Nat.le_of_ble_eq_true rfl, Nat.le_of_ble_eq_true rfl⟩) hD hS hA (fun u16 H locs h hP hD hS => ?_)
        exact gr_v (w := wX ad ca K) (u := u16) hx hb hr hlocks h hP hK hD hS dX0_turnAway_101

theorem dX0_admit_0 : decode prog_1_method_22_code 0 = .ok (.aload_n 0, 1) := by decide +kernel
theorem dX0_admit_1 : decode prog_1_method_22_code 1 = .ok (.getfield 18, 3) := by decide +kernel
theorem dX0_admit_4 : decode prog_1_method_22_code 4 = .ok (.invokevirtual 246, 3) := by decide +kernel
theorem dX0_admit_7 : decode prog_1_method_22_code 7 = .ok (.astore_n 3, 1) := by decide +kernel
theorem dX0_admit_8 : decode prog_1_method_22_code 8 = .ok (.aload_n 0, 1) := by decide +kernel
theorem dX0_admit_9 : decode prog_1_method_22_code 9 = .ok (.getfield 40, 3) := by decide +kernel
theorem dX0_admit_12 : decode prog_1_method_22_code 12 = .ok (.ifCond .ne 9, 3) := by decide +kernel
theorem dX0_admit_15 : decode prog_1_method_22_code 15 = .ok (.iload_n 2, 1) := by decide +kernel
theorem dX0_admit_16 : decode prog_1_method_22_code 16 = .ok (.bipush 24, 2) := by decide +kernel
theorem dX0_admit_18 : decode prog_1_method_22_code 18 = .ok (.if_icmp .le 12, 3) := by decide +kernel
theorem dX0_admit_21 : decode prog_1_method_22_code 21 = .ok (.aload_n 1, 1) := by decide +kernel
theorem dX0_admit_22 : decode prog_1_method_22_code 22 = .ok (.bipush 6, 2) := by decide +kernel
theorem dX0_admit_24 : decode prog_1_method_22_code 24 = .ok (.putfield 90, 3) := by decide +kernel
theorem dX0_admit_27 : decode prog_1_method_22_code 27 = .ok (.goto 100, 3) := by decide +kernel
theorem dX0_admit_30 : decode prog_1_method_22_code 30 = .ok (.aload_n 0, 1) := by decide +kernel
theorem dX0_admit_31 : decode prog_1_method_22_code 31 = .ok (.getfield 18, 3) := by decide +kernel
theorem dX0_admit_34 : decode prog_1_method_22_code 34 = .ok (.getfield 214, 3) := by decide +kernel
theorem dX0_admit_37 : decode prog_1_method_22_code 37 = .ok (.aload_n 0, 1) := by decide +kernel
theorem dX0_admit_38 : decode prog_1_method_22_code 38 = .ok (.getfield 54, 3) := by decide +kernel
theorem dX0_admit_41 : decode prog_1_method_22_code 41 = .ok (.if_icmp .ge 14, 3) := by decide +kernel
theorem dX0_admit_44 : decode prog_1_method_22_code 44 = .ok (.aload_n 0, 1) := by decide +kernel
theorem dX0_admit_45 : decode prog_1_method_22_code 45 = .ok (.getfield 18, 3) := by decide +kernel
theorem dX0_admit_48 : decode prog_1_method_22_code 48 = .ok (.aload_n 1, 1) := by decide +kernel
theorem dX0_admit_49 : decode prog_1_method_22_code 49 = .ok (.invokevirtual 250, 3) := by decide +kernel
theorem dX0_admit_52 : decode prog_1_method_22_code 52 = .ok (.goto 75, 3) := by decide +kernel
theorem dX0_admit_55 : decode prog_1_method_22_code 55 = .ok (.aload_n 3, 1) := by decide +kernel
theorem dX0_admit_56 : decode prog_1_method_22_code 56 = .ok (.ifnull 11, 3) := by decide +kernel
theorem dX0_admit_59 : decode prog_1_method_22_code 59 = .ok (.aload_n 3, 1) := by decide +kernel
theorem dX0_admit_60 : decode prog_1_method_22_code 60 = .ok (.aload_n 1, 1) := by decide +kernel
theorem dX0_admit_61 : decode prog_1_method_22_code 61 = .ok (.invokevirtual 254, 3) := by decide +kernel
theorem dX0_admit_64 : decode prog_1_method_22_code 64 = .ok (.goto 63, 3) := by decide +kernel
theorem dX0_admit_67 : decode prog_1_method_22_code 67 = .ok (.aload_n 0, 1) := by decide +kernel
theorem dX0_admit_68 : decode prog_1_method_22_code 68 = .ok (.getfield 25, 3) := by decide +kernel
theorem dX0_admit_71 : decode prog_1_method_22_code 71 = .ok (.getfield 218, 3) := by decide +kernel
theorem dX0_admit_74 : decode prog_1_method_22_code 74 = .ok (.aload_n 0, 1) := by decide +kernel
theorem dX0_admit_75 : decode prog_1_method_22_code 75 = .ok (.getfield 66, 3) := by decide +kernel
theorem dX0_admit_78 : decode prog_1_method_22_code 78 = .ok (.if_icmp .ge 18, 3) := by decide +kernel
theorem dX0_admit_81 : decode prog_1_method_22_code 81 = .ok (.aload_n 0, 1) := by decide +kernel
theorem dX0_admit_82 : decode prog_1_method_22_code 82 = .ok (.getfield 25, 3) := by decide +kernel
theorem dX0_admit_85 : decode prog_1_method_22_code 85 = .ok (.aload_n 1, 1) := by decide +kernel
theorem dX0_admit_86 : decode prog_1_method_22_code 86 = .ok (.aload_n 0, 1) := by decide +kernel
theorem dX0_admit_87 : decode prog_1_method_22_code 87 = .ok (.getfield 46, 3) := by decide +kernel
theorem dX0_admit_90 : decode prog_1_method_22_code 90 = .ok (.invokevirtual 257, 3) := by decide +kernel
theorem dX0_admit_93 : decode prog_1_method_22_code 93 = .ok (.goto 34, 3) := by decide +kernel
theorem dX0_admit_96 : decode prog_1_method_22_code 96 = .ok (.aload_n 0, 1) := by decide +kernel
theorem dX0_admit_97 : decode prog_1_method_22_code 97 = .ok (.getfield 18, 3) := by decide +kernel
theorem dX0_admit_100 : decode prog_1_method_22_code 100 = .ok (.getfield 214, 3) := by decide +kernel
theorem dX0_admit_103 : decode prog_1_method_22_code 103 = .ok (.aload_n 0, 1) := by decide +kernel
theorem dX0_admit_104 : decode prog_1_method_22_code 104 = .ok (.getfield 63, 3) := by decide +kernel
theorem dX0_admit_107 : decode prog_1_method_22_code 107 = .ok (.if_icmp .ge 14, 3) := by decide +kernel
theorem dX0_admit_110 : decode prog_1_method_22_code 110 = .ok (.aload_n 0, 1) := by decide +kernel
theorem dX0_admit_111 : decode prog_1_method_22_code 111 = .ok (.getfield 18, 3) := by decide +kernel
theorem dX0_admit_114 : decode prog_1_method_22_code 114 = .ok (.aload_n 1, 1) := by decide +kernel
theorem dX0_admit_115 : decode prog_1_method_22_code 115 = .ok (.invokevirtual 250, 3) := by decide +kernel
theorem dX0_admit_118 : decode prog_1_method_22_code 118 = .ok (.goto 9, 3) := by decide +kernel
theorem dX0_admit_121 : decode prog_1_method_22_code 121 = .ok (.aload_n 0, 1) := by decide +kernel
theorem dX0_admit_122 : decode prog_1_method_22_code 122 = .ok (.aload_n 1, 1) := by decide +kernel
theorem dX0_admit_123 : decode prog_1_method_22_code 123 = .ok (.iload_n 2, 1) := by decide +kernel
theorem dX0_admit_124 : decode prog_1_method_22_code 124 = .ok (.invokevirtual 261, 3) := by decide +kernel
theorem dX0_admit_127 : decode prog_1_method_22_code 127 = .ok (.return_, 1) := by decide +kernel
def wpX0_admitF (K : KX) (adm : KX → (gS → Prop) → gS → Nat → Int32 → Prop) (post : gS → Prop) (u : gS) (p1 : Nat) (p2 : Int32) : Prop :=
  wpX1_firstIdle K (fun (r1 : Option Nat) (u2 : gS) => ((¬ (sI u2 0) = 0 → (∀ u4 : gS, u4 = tA u2 0 p1 6 → (post u4))) ∧ ((sI u2 0) = 0 → (((p2 ≤ 24 → ((((K.1 0) ≤ (sI u2 2) → (((r1 = none → ((((K.1 2) ≤ (sI u2 4) → ((((K.1 1) ≤ (sI u2 2) → (wpX0_turnAway K adm (fun (u11 : gS) => post u11) u2 p1 p2)) ∧ (¬ (K.1 1) ≤ (sI u2 2) → (wpX1_hire K (fun (u13 : gS) => post u13) u2 p1))))) ∧ (¬ (K.1 2) ≤ (sI u2 4) → (wpX2_add K (fun (u15 : gS) => post u15) u2 p1 (sD u2 0)))))) ∧ (∀ y7 : Nat, r1 = some y7 → (y7 ∈ K.2.1 ∧ (wpX4_begin K (fun (u18 : gS) => post u18) u2 y7 p1)))))) ∧ (¬ (K.1 0) ≤ (sI u2 2) → (wpX1_hire K (fun (u20 : gS) => post u20) u2 p1))))) ∧ (¬ p2 ≤ 24 → (∀ u21 : gS, u21 = tA u2 0 p1 6 → (post u21)))))))) u

set_option maxHeartbeats 8000000 in
set_option maxRecDepth 100000 in
theorem cX0_admitF (l : Launch) (dC : Nat → ClassId) (dI : Nat → Nat → Nat) (ad : Nat → Nat) (ca : Nat → ClassId) (K : KX) (n : Nat) (adm : KX → (gS → Prop) → gS → Nat → Int32 → Prop) (sz : Nat) (u : gS) (p1 : Nat) (p2 : Int32) (post : gS → Prop) (hp1 : p1 ∈ K.2.2.1) (h : wpX0_admitF K adm post u p1 p2) (hadm : ∀ (sz : Nat) (u : gS) (p1 : Nat) (p2 : Int32) (post : gS → Prop), p1 ∈ K.2.2.1 → adm K post u p1 p2 → Met l ⟨"WorkHall", "admit", "(LWorkHall$Job;I)V"⟩ (gw ⟨"WorkHall", "admit", "(LWorkHall$Job;I)V"⟩ prog_1_method_22_code 4 none) (rmN (4 * n + 4)) (va_Pc [.ref (ad 0), .ref p1, .int p2] (gB (dC, dI) vwCl (xT ca) xE (wX ad ca K u) sz)) (va_Qv post (gAt (dC, dI) vwCl (xT ca) (wX ad ca K) (va_A (wX ad ca K u) sz)) (va_A (wX ad ca K u) sz)) 0 0 (va_A (wX ad ca K u) sz)) : Met l ⟨"WorkHall", "admit", "(LWorkHall$Job;I)V"⟩ (gw ⟨"WorkHall", "admit", "(LWorkHall$Job;I)V"⟩ prog_1_method_22_code 4 none) (rmN (4 * n + 8)) (va_Pc [.ref (ad 0), .ref p1, .int p2] (gB (dC, dI) vwCl (xT ca) xE (wX ad ca K u) sz)) (va_Qv post (gAt (dC, dI) vwCl (xT ca) (wX ad ca K) (va_A (wX ad ca K u) sz)) (va_A (wX ad ca K u) sz)) 0 0 (va_A (wX ad ca K u) sz) := by
  refine Met.ofW (cc := prog_1_method_22_code) (maxL := 4) (ret := none) (by decide) rfl ?_
  intro p e s m args below meth c s₁ B hml hv
  obtain ⟨rfl, hsz, hP, hK, hD0, hE⟩ := hv
  have hx := B.exec
  have hb := B.bytes
  have hr := B.returns
  have hts : ∀ w ∈ gW, w.before _ s = true := fun w h9 => atoms_spec (ws := (gw ⟨"WorkHall", "admit", "(LWorkHall$Job;I)V"⟩ prog_1_method_22_code 4 none)) B.pre w (List.mem_cons_of_mem _ h9)
  have hown : s.vm.findClass RX0 = some m.cls := findClass_of_methodNamed B.named
  have hlocks := B.notSynchronized
  subst hsz
  have hD := hD0.self (sz := s.heap.size)
  generalize hAe : va_A (wX ad ca K u) s.heap.size = A at hD hE ⊢
  have hA : ∀ q : Nat, s.heap.size ≤ q → A q := fun q h => by rw [← hAe]; exact Or.inr h
  obtain ⟨H, hHe⟩ : ∃ z : Heap, z = s.heap := ⟨_, rfl⟩
  rw [← hHe]
  have hS : va_S A s.heap H [] := by rw [hHe]; exact va_S.rf
  have hP : va_P (dC, dI) vwCl (wX ad ca K u) H := by rw [hHe]; exact hP
  have hl := lv_entry ([.ref (ad 0), .ref p1, .int p2]) (n := 4) (Nat.le_of_ble_eq_true rfl)
  rw [lg_entry_eq]
  generalize (lg_sl ([.ref (ad 0), .ref p1, .int p2]) ++ List.replicate (4 - (lg_sl ([.ref (ad 0), .ref p1, .int p2])).length) Slot.unset).toArray = ls at hl ⊢
  have hl : lv_has ls 4 [(0, .ref (ad 0)), (1, .ref p1), (2, .int p2)] := hl
  clear hAe
  refine lv_aload_n hx hb dX0_admit_0 rfl (lv_at hl 0 rfl) ?_
  refine va_get (D := (dC, dI)) (ci := 0) (v := .ref (ad 2)) (C := RX0) (T := TX0) (N := 12) hx hb hts uwX0 hown hK hP 0 rfl rfl 5 (by decide) (hts _ wd_177) (fun _ h9 => h9) rfl dX0_admit_1 ?_
  refine gc_q (w := wX ad ca K) (u := u) (va_runV (As := []) (rest := []) ⟨hx, hb, hml, hown, hts⟩ (cX1_firstIdle l dC dI ad ca K H.size u _ h) (cwV 0 hts (gG_V wd_393 wd_394 wd_395 wd_47 wd_396) rfl rfl rfl (by decide +kernel) (rmN_le (k := 2) (by omega) (by decide))) ⟨gB_blind xE_ok, va_recv hK hP (ci := 1) (q0 := 2) rfl rfl, gB_pre xE_ok hP hK hD hE hS hA⟩ rfl rfl hl.1 rfl (lv_room (Nat.le_of_ble_eq_true rfl)) dX0_admit_4 ⟨Nat.le_of_ble_eq_true rfl, Nat.le_of_ble_eq_true rfl⟩) hD hS hA (fun r1 u2 H locs h hP hD hS => ?_)
  refine gq_astore_n (r := r1) (lv' := [(3, va_rf r1), (0, .ref (ad 0)), (1, .ref p1), (2, .int p2)]) hx hb dX0_admit_7 rfl hl (by decide) rfl (fun ls hl => ?_)
  refine lv_aload_n hx hb dX0_admit_8 rfl (lv_at hl 1 rfl) ?_
  refine va_get (D := (dC, dI)) (ci := 0) (v := .int (sI u2 0)) (C := RX0) (T := TX0) (N := 12) hx hb hts uwX0 hown hK hP 0 rfl rfl 9 (by decide) (hts _ wd_181) (fun _ h9 => h9) rfl dX0_admit_9 ?_
  refine lv_if_ne (tgt := 21) hx hb dX0_admit_12 (by decide) (fun c3 => ?_) (fun c3 => ?_)
  · have h := h.1 c3
    refine lv_aload_n hx hb dX0_admit_21 rfl (lv_at hl 2 rfl) ?_
    refine lv_bipush (v := 6) hx hb dX0_admit_22 (by decide) ?_
    obtain ⟨k9, hk9⟩ := xJ_get hp1
    have e9 := xJ_state (v := 6) hD hp1 hk9
    refine va_put (D := (dC, dI)) (ci := 5) (v := .int 6) (ty := tyX5 5) (C := RX5) (T := TX5) (N := 9) hx hb hts uwX5 tyX5 tyX5_ok nmX5 hown hK hP hD hS k9 hk9 rfl 5 (by decide) (hts _ wd_327) (fun _ h9 => h9) rfl (tyX5_ok 5 (by decide)) rfl rfl (Nat.le_of_ble_eq_true rfl) dX0_admit_24 (fun H locs hP hD hS => ?_)
    obtain ⟨u4, eu4⟩ : ∃ z : gS, z = tA u2 0 p1 6 := ⟨_, rfl⟩
    have hP : va_P (dC, dI) vwCl (wX ad ca K u4) H := by rw [eu4, ← e9]; exact hP
    have hD : va_D A (wX ad ca K u4) := by rw [eu4, ← e9]; exact hD
    have h := h u4 eu4
    refine lv_goto (tgt := 127) hx hb dX0_admit_27 (by decide) ?_
    exact gr_v (w := wX ad ca K) (u := u4) hx hb hr hlocks h hP hK hD hS dX0_admit_127
  · have h := h.2 c3
    refine lv_iload_n hx hb dX0_admit_15 rfl (lv_at hl 3 rfl) ?_
    refine lv_bipush (v := 24) hx hb dX0_admit_16 (by decide) ?_
    refine lv_icmp_le (tgt := 30) hx hb dX0_admit_18 (by decide) (fun c5 => ?_) (fun c5 => ?_)
    · have h := h.1 c5
      refine lv_aload_n hx hb dX0_admit_30 rfl (lv_at hl 1 rfl) ?_
      refine va_get (D := (dC, dI)) (ci := 0) (v := .ref (ad 2)) (C := RX0) (T := TX0) (N := 12) hx hb hts uwX0 hown hK hP 0 rfl rfl 5 (by decide) (hts _ wd_177) (fun _ h9 => h9) rfl dX0_admit_31 ?_
      refine va_get (D := (dC, dI)) (ci := 1) (v := .int (sI u2 2)) (C := RX1) (T := TX1) (N := 3) hx hb hts uwX1 hown hK hP 2 rfl rfl 1 (by decide) (hts _ wd_102) (fun _ h9 => h9) rfl dX0_admit_34 ?_
      refine lv_aload_n hx hb dX0_admit_37 rfl (lv_at hl 1 rfl) ?_
      refine va_get (D := (dC, dI)) (ci := 0) (v := .int (K.1 0)) (C := RX0) (T := TX0) (N := 12) hx hb hts uwX0 hown hK hP 0 rfl rfl 0 (by decide) (hts _ wd_172) (fun _ h9 => h9) rfl dX0_admit_38 ?_
      refine lv_icmp_ge (tgt := 55) hx hb dX0_admit_41 (by decide) (fun c6 => ?_) (fun c6 => ?_)
      · have h := h.1 c6
        refine gq_aload_n (r := r1) hx hb dX0_admit_55 rfl (lv_at hl 0 rfl) ?_
        rcases r1 with _ | y7
        · have h := h.1 rfl
          refine lv_ifnullN (tgt := 67) hx hb dX0_admit_56 (by decide) ?_
          refine lv_aload_n hx hb dX0_admit_67 rfl (lv_at hl 1 rfl) ?_
          refine va_get (D := (dC, dI)) (ci := 0) (v := .ref (ad 4)) (C := RX0) (T := TX0) (N := 12) hx hb hts uwX0 hown hK hP 0 rfl rfl 6 (by decide) (hts _ wd_178) (fun _ h9 => h9) rfl dX0_admit_68 ?_
          refine va_get (D := (dC, dI)) (ci := 2) (v := .int (sI u2 4)) (C := RX2) (T := TX2) (N := 5) hx hb hts uwX2 hown hK hP 4 rfl rfl 2 (by decide) (hts _ wd_122) (fun _ h9 => h9) rfl dX0_admit_71 ?_
          refine lv_aload_n hx hb dX0_admit_74 rfl (lv_at hl 1 rfl) ?_
          refine va_get (D := (dC, dI)) (ci := 0) (v := .int (K.1 2)) (C := RX0) (T := TX0) (N := 12) hx hb hts uwX0 hown hK hP 0 rfl rfl 2 (by decide) (hts _ wd_174) (fun _ h9 => h9) rfl dX0_admit_75 ?_
          refine lv_icmp_ge (tgt := 96) hx hb dX0_admit_78 (by decide) (fun c8 => ?_) (fun c8 => ?_)
          · have h := h.1 c8
            refine lv_aload_n hx hb dX0_admit_96 rfl (lv_at hl 1 rfl) ?_
            refine va_get (D := (dC, dI)) (ci := 0) (v := .ref (ad 2)) (C := RX0) (T := TX0) (N := 12) hx hb hts uwX0 hown hK hP 0 rfl rfl 5 (by decide) (hts _ wd_177) (fun _ h9 => h9) rfl dX0_admit_97 ?_
            refine va_get (D := (dC, dI)) (ci := 1) (v := .int (sI u2 2)) (C := RX1) (T := TX1) (N := 3) hx hb hts uwX1 hown hK hP 2 rfl rfl 1 (by decide) (hts _ wd_102) (fun _ h9 => h9) rfl dX0_admit_100 ?_
            refine lv_aload_n hx hb dX0_admit_103 rfl (lv_at hl 1 rfl) ?_
            refine va_get (D := (dC, dI)) (ci := 0) (v := .int (K.1 1)) (C := RX0) (T := TX0) (N := 12) hx hb hts uwX0 hown hK hP 0 rfl rfl 1 (by decide) (hts _ wd_173) (fun _ h9 => h9) rfl dX0_admit_104 ?_
            refine lv_icmp_ge (tgt := 121) hx hb dX0_admit_107 (by decide) (fun c9 => ?_) (fun c9 => ?_)
            · have h := h.1 c9
              refine lv_aload_n hx hb dX0_admit_121 rfl (lv_at hl 1 rfl) ?_
              refine lv_aload_n hx hb dX0_admit_122 rfl (lv_at hl 2 rfl) ?_
              refine lv_iload_n hx hb dX0_admit_123 rfl (lv_at hl 3 rfl) ?_
              refine gc_v (w := wX ad ca K) (u := u2) (va_runV (As := [.ref p1, .int p2]) (rest := []) ⟨hx, hb, hml, hown, hts⟩ (cX0_turnAway l dC dI ad ca K n adm H.size u2 p1 p2 _ hp1 h hadm) (cwV 2 hts (gG_V wd_419 wd_421 wd_4 wd_46 wd_422) rfl rfl rfl (by decide +kernel) (rmN_le (k := 4 * n + 7) (by omega) (by decide))) ⟨gB_blind xE_ok, va_recv hK hP (ci := 0) (q0 := 0) rfl rfl, gB_pre xE_ok hP hK hD hE hS hA⟩ rfl rfl hl.1 rfl (lv_room (Nat.le_of_ble_eq_true rfl)) dX0_admit_124 ⟨Nat.le_of_ble_eq_true rfl, Nat.le_of_ble_eq_true rfl⟩) hD hS hA (fun u11 H locs h hP hD hS => ?_)
              exact gr_v (w := wX ad ca K) (u := u11) hx hb hr hlocks h hP hK hD hS dX0_admit_127
            · have h := h.2 c9
              refine lv_aload_n hx hb dX0_admit_110 rfl (lv_at hl 1 rfl) ?_
              refine va_get (D := (dC, dI)) (ci := 0) (v := .ref (ad 2)) (C := RX0) (T := TX0) (N := 12) hx hb hts uwX0 hown hK hP 0 rfl rfl 5 (by decide) (hts _ wd_177) (fun _ h9 => h9) rfl dX0_admit_111 ?_
              refine lv_aload_n hx hb dX0_admit_114 rfl (lv_at hl 2 rfl) ?_
              refine gc_v (w := wX ad ca K) (u := u2) (va_runV (As := [.ref p1]) (rest := []) ⟨hx, hb, hml, hown, hts⟩ (cX1_hire l dC dI ad ca K H.size u2 p1 _ hp1 h) (cwV 1 hts (gG_V wd_405 wd_406 wd_407 wd_47 wd_408) rfl rfl rfl (by decide +kernel) (rmN_le (k := 2) (by omega) (by decide))) ⟨gB_blind xE_ok, va_recv hK hP (ci := 1) (q0 := 2) rfl rfl, gB_pre xE_ok hP hK hD hE hS hA⟩ rfl rfl hl.1 rfl (lv_room (Nat.le_of_ble_eq_true rfl)) dX0_admit_115 ⟨Nat.le_of_ble_eq_true rfl, Nat.le_of_ble_eq_true rfl⟩) hD hS hA (fun u13 H locs h hP hD hS => ?_)
              refine lv_goto (tgt := 127) hx hb dX0_admit_118 (by decide) ?_
              exact gr_v (w := wX ad ca K) (u := u13) hx hb hr hlocks h hP hK hD hS dX0_admit_127
          · have h := h.2 c8
            refine lv_aload_n hx hb dX0_admit_81 rfl (lv_at hl 1 rfl) ?_
            refine va_get (D := (dC, dI)) (ci := 0) (v := .ref (ad 4)) (C := RX0) (T := TX0) (N := 12) hx hb hts uwX0 hown hK hP 0 rfl rfl 6 (by decide) (hts _ wd_178) (fun _ h9 => h9) rfl dX0_admit_82 ?_
            refine lv_aload_n hx hb dX0_admit_85 rfl (lv_at hl 2 rfl) ?_
            refine lv_aload_n hx hb dX0_admit_86 rfl (lv_at hl 1 rfl) ?_
            refine va_get (D := (dC, dI)) (ci := 0) (v := .double (sD u2 0)) (C := RX0) (T := TX0) (N := 12) hx hb hts uwX0 hown hK hP 0 rfl rfl 11 (by decide) (hts _ wd_183) (fun _ h9 => h9) rfl dX0_admit_87 ?_
            refine gc_v (w := wX ad ca K) (u := u2) (va_runV (As := [.ref p1, .double (sD u2 0)]) (rest := []) ⟨hx, hb, hml, hown, hts⟩ (cX2_add l dC dI ad ca K H.size u2 p1 (sD u2 0) _ hp1 h) (cwV 2 hts (gG_V wd_415 wd_416 wd_417 wd_49 wd_418) rfl rfl rfl (by decide +kernel) (rmN_le (k := 1) (by omega) (by decide))) ⟨gB_blind xE_ok, va_recv hK hP (ci := 2) (q0 := 4) rfl rfl, gB_pre xE_ok hP hK hD hE hS hA⟩ rfl rfl hl.1 rfl (lv_room (Nat.le_of_ble_eq_true rfl)) dX0_admit_90 ⟨Nat.le_of_ble_eq_true rfl, Nat.le_of_ble_eq_true rfl⟩) hD hS hA (fun u15 H locs h hP hD hS => ?_)
            refine lv_goto (tgt := 127) hx hb dX0_admit_93 (by decide) ?_
            exact gr_v (w := wX ad ca K) (u := u15) hx hb hr hlocks h hP hK hD hS dX0_admit_127
        · have h := h.2 y7 rfl
          refine lv_ifnull hx hb dX0_admit_56 ?_
          refine lv_aload_n hx hb dX0_admit_59 rfl (lv_at hl 0 rfl) ?_
          refine lv_aload_n hx hb dX0_admit_60 rfl (lv_at hl 2 rfl) ?_
          obtain ⟨hy16, h⟩ := h
          refine gc_v (w := wX ad ca K) (u := u2) (va_runV (As := [.ref p1]) (rest := []) ⟨hx, hb, hml, hown, hts⟩ (cX4_begin l dC dI ad ca K H.size u2 y7 p1 _ hy16 hp1 h) (cwV 1 hts (gG_V wd_414 wd_410 wd_411 wd_48 wd_412) rfl rfl rfl (by decide +kernel) (rmN_le (k := 1) (by omega) (by decide))) ⟨gB_blind xE_ok, (by obtain ⟨k9, hk9⟩ := xW_get hy16; exact va_recv hK hP (ci := 4) (q0 := k9) rfl hk9), gB_pre xE_ok hP hK hD hE hS hA⟩ rfl rfl hl.1 rfl (lv_room (Nat.le_of_ble_eq_true rfl)) dX0_admit_61 ⟨Nat.le_of_ble_eq_true rfl, Nat.le_of_ble_eq_true rfl⟩) hD hS hA (fun u18 H locs h hP hD hS => ?_)
          refine lv_goto (tgt := 127) hx hb dX0_admit_64 (by decide) ?_
          exact gr_v (w := wX ad ca K) (u := u18) hx hb hr hlocks h hP hK hD hS dX0_admit_127
      · have h := h.2 c6
        refine lv_aload_n hx hb dX0_admit_44 rfl (lv_at hl 1 rfl) ?_
        refine va_get (D := (dC, dI)) (ci := 0) (v := .ref (ad 2)) (C := RX0) (T := TX0) (N := 12) hx hb hts uwX0 hown hK hP 0 rfl rfl 5 (by decide) (hts _ wd_177) (fun _ h9 => h9) rfl dX0_admit_45 ?_
        refine lv_aload_n hx hb dX0_admit_48 rfl (lv_at hl 2 rfl) ?_
        refine gc_v (w := wX ad ca K) (u := u2) (va_runV (As := [.ref p1]) (rest := []) ⟨hx, hb, hml, hown, hts⟩ (cX1_hire l dC dI ad ca K H.size u2 p1 _ hp1 h) (cwV 1 hts (gG_V wd_405 wd_406 wd_407 wd_47 wd_408) rfl rfl rfl (by decide +kernel) (rmN_le (k := 2) (by omega) (by decide))) ⟨gB_blind xE_ok, va_recv hK hP (ci := 1) (q0 := 2) rfl rfl, gB_pre xE_ok hP hK hD hE hS hA⟩ rfl rfl hl.1 rfl (lv_room (Nat.le_of_ble_eq_true rfl)) dX0_admit_49 ⟨Nat.le_of_ble_eq_true rfl, Nat.le_of_ble_eq_true rfl⟩) hD hS hA (fun u20 H locs h hP hD hS => ?_)
        refine lv_goto (tgt := 127) hx hb dX0_admit_52 (by decide) ?_
        exact gr_v (w := wX ad ca K) (u := u20) hx hb hr hlocks h hP hK hD hS dX0_admit_127
    · have h := h.2 c5
      refine lv_aload_n hx hb dX0_admit_21 rfl (lv_at hl 2 rfl) ?_
      refine lv_bipush (v := 6) hx hb dX0_admit_22 (by decide) ?_
      obtain ⟨k9, hk9⟩ := xJ_get hp1
      have e9 := xJ_state (v := 6) hD hp1 hk9
      refine va_put (D := (dC, dI)) (ci := 5) (v := .int 6) (ty := tyX5 5) (C := RX5) (T := TX5) (N := 9) hx hb hts uwX5 tyX5 tyX5_ok nmX5 hown hK hP hD hS k9 hk9 rfl 5 (by decide) (hts _ wd_327) (fun _ h9 => h9) rfl (tyX5_ok 5 (by decide)) rfl rfl (Nat.le_of_ble_eq_true rfl) dX0_admit_24 (fun H locs hP hD hS => ?_)
      obtain ⟨u21, eu21⟩ : ∃ z : gS, z = tA u2 0 p1 6 := ⟨_, rfl⟩
      have hP : va_P (dC, dI) vwCl (wX ad ca K u21) H := by rw [eu21, ← e9]; exact hP
      have hD : va_D A (wX ad ca K u21) := by rw [eu21, ← e9]; exact hD
      have h := h u21 eu21
      refine lv_goto (tgt := 127) hx hb dX0_admit_27 (by decide) ?_
      exact gr_v (w := wX ad ca K) (u := u21) hx hb hr hlocks h hP hK hD hS dX0_admit_127

def wpX0_admit : Nat → KX → (gS → Prop) → gS → Nat → Int32 → Prop
  | 0 => fun _ _ _ _ _ => False
  | n + 1 => fun K post u p1 p2 => wpX0_admitF K (wpX0_admit n) post u p1 p2
theorem cX0_admit (l : Launch) (dC : Nat → ClassId) (dI : Nat → Nat → Nat) (ad : Nat → Nat) (ca : Nat → ClassId) (K : KX) : ∀ (n sz : Nat) (u : gS) (p1 : Nat) (p2 : Int32) (post : gS → Prop), p1 ∈ K.2.2.1 → wpX0_admit n K post u p1 p2 → Met l ⟨"WorkHall", "admit", "(LWorkHall$Job;I)V"⟩ (gw ⟨"WorkHall", "admit", "(LWorkHall$Job;I)V"⟩ prog_1_method_22_code 4 none) (rmN (4 * n + 4)) (va_Pc [.ref (ad 0), .ref p1, .int p2] (gB (dC, dI) vwCl (xT ca) xE (wX ad ca K u) sz)) (va_Qv post (gAt (dC, dI) vwCl (xT ca) (wX ad ca K) (va_A (wX ad ca K u) sz)) (va_A (wX ad ca K u) sz)) 0 0 (va_A (wX ad ca K u) sz) := by
  intro n
  induction n with
  | zero => exact fun _ _ _ _ _ _ h => h.elim
  | succ n ih =>
    intro sz u p1 p2 post hp1 h
    exact cX0_admitF l dC dI ad ca K n (wpX0_admit n) sz u p1 p2 post hp1 h ih
end
section
theorem dX0_staysAfterTurn_0 : decode prog_1_method_28_code 0 = .ok (.aload_n 0, 1) := by decide +kernel
theorem dX0_staysAfterTurn_1 : decode prog_1_method_28_code 1 = .ok (.getfield 18, 3) := by decide +kernel
theorem dX0_staysAfterTurn_4 : decode prog_1_method_28_code 4 = .ok (.iload_n 1, 1) := by decide +kernel
theorem dX0_staysAfterTurn_5 : decode prog_1_method_28_code 5 = .ok (.invokevirtual 135, 3) := by decide +kernel
theorem dX0_staysAfterTurn_8 : decode prog_1_method_28_code 8 = .ok (.astore_n 2, 1) := by decide +kernel
theorem dX0_staysAfterTurn_9 : decode prog_1_method_28_code 9 = .ok (.aload_n 2, 1) := by decide +kernel
theorem dX0_staysAfterTurn_10 : decode prog_1_method_28_code 10 = .ok (.ifnull 10, 3) := by decide +kernel
theorem dX0_staysAfterTurn_13 : decode prog_1_method_28_code 13 = .ok (.aload_n 2, 1) := by decide +kernel
theorem dX0_staysAfterTurn_14 : decode prog_1_method_28_code 14 = .ok (.getfield 295, 3) := by decide +kernel
theorem dX0_staysAfterTurn_17 : decode prog_1_method_28_code 17 = .ok (.ifnonnull 5, 3) := by decide +kernel
theorem dX0_staysAfterTurn_20 : decode prog_1_method_28_code 20 = .ok (.iconst 1, 1) := by decide +kernel
theorem dX0_staysAfterTurn_21 : decode prog_1_method_28_code 21 = .ok (.ireturn, 1) := by decide +kernel
theorem dX0_staysAfterTurn_22 : decode prog_1_method_28_code 22 = .ok (.aload_n 2, 1) := by decide +kernel
theorem dX0_staysAfterTurn_23 : decode prog_1_method_28_code 23 = .ok (.dup, 1) := by decide +kernel
theorem dX0_staysAfterTurn_24 : decode prog_1_method_28_code 24 = .ok (.getfield 209, 3) := by decide +kernel
theorem dX0_staysAfterTurn_27 : decode prog_1_method_28_code 27 = .ok (.iconst 1, 1) := by decide +kernel
theorem dX0_staysAfterTurn_28 : decode prog_1_method_28_code 28 = .ok (.isub, 1) := by decide +kernel
theorem dX0_staysAfterTurn_29 : decode prog_1_method_28_code 29 = .ok (.putfield 209, 3) := by decide +kernel
theorem dX0_staysAfterTurn_32 : decode prog_1_method_28_code 32 = .ok (.aload_n 2, 1) := by decide +kernel
theorem dX0_staysAfterTurn_33 : decode prog_1_method_28_code 33 = .ok (.getfield 209, 3) := by decide +kernel
theorem dX0_staysAfterTurn_36 : decode prog_1_method_28_code 36 = .ok (.ifCond .le 5, 3) := by decide +kernel
theorem dX0_staysAfterTurn_39 : decode prog_1_method_28_code 39 = .ok (.iconst 1, 1) := by decide +kernel
theorem dX0_staysAfterTurn_40 : decode prog_1_method_28_code 40 = .ok (.ireturn, 1) := by decide +kernel
theorem dX0_staysAfterTurn_41 : decode prog_1_method_28_code 41 = .ok (.aload_n 2, 1) := by decide +kernel
theorem dX0_staysAfterTurn_42 : decode prog_1_method_28_code 42 = .ok (.getfield 295, 3) := by decide +kernel
theorem dX0_staysAfterTurn_45 : decode prog_1_method_28_code 45 = .ok (.astore_n 3, 1) := by decide +kernel
theorem dX0_staysAfterTurn_46 : decode prog_1_method_28_code 46 = .ok (.aload_n 0, 1) := by decide +kernel
theorem dX0_staysAfterTurn_47 : decode prog_1_method_28_code 47 = .ok (.aload_n 3, 1) := by decide +kernel
theorem dX0_staysAfterTurn_48 : decode prog_1_method_28_code 48 = .ok (.iconst 0, 1) := by decide +kernel
theorem dX0_staysAfterTurn_49 : decode prog_1_method_28_code 49 = .ok (.invokevirtual 264, 3) := by decide +kernel
theorem dX0_staysAfterTurn_52 : decode prog_1_method_28_code 52 = .ok (.aload_n 3, 1) := by decide +kernel
theorem dX0_staysAfterTurn_53 : decode prog_1_method_28_code 53 = .ok (.getfield 90, 3) := by decide +kernel
theorem dX0_staysAfterTurn_56 : decode prog_1_method_28_code 56 = .ok (.iconst 4, 1) := by decide +kernel
theorem dX0_staysAfterTurn_57 : decode prog_1_method_28_code 57 = .ok (.if_icmp .ne 18, 3) := by decide +kernel
theorem dX0_staysAfterTurn_60 : decode prog_1_method_28_code 60 = .ok (.aload_n 3, 1) := by decide +kernel
theorem dX0_staysAfterTurn_61 : decode prog_1_method_28_code 61 = .ok (.getfield 151, 3) := by decide +kernel
theorem dX0_staysAfterTurn_64 : decode prog_1_method_28_code 64 = .ok (.iconst 5, 1) := by decide +kernel
theorem dX0_staysAfterTurn_65 : decode prog_1_method_28_code 65 = .ok (.if_icmp .ne 10, 3) := by decide +kernel
theorem dX0_staysAfterTurn_68 : decode prog_1_method_28_code 68 = .ok (.aload_n 0, 1) := by decide +kernel
theorem dX0_staysAfterTurn_69 : decode prog_1_method_28_code 69 = .ok (.iload_n 1, 1) := by decide +kernel
theorem dX0_staysAfterTurn_70 : decode prog_1_method_28_code 70 = .ok (.invokevirtual 298, 3) := by decide +kernel
theorem dX0_staysAfterTurn_73 : decode prog_1_method_28_code 73 = .ok (.iconst 0, 1) := by decide +kernel
theorem dX0_staysAfterTurn_74 : decode prog_1_method_28_code 74 = .ok (.ireturn, 1) := by decide +kernel
theorem dX0_staysAfterTurn_75 : decode prog_1_method_28_code 75 = .ok (.aload_n 0, 1) := by decide +kernel
theorem dX0_staysAfterTurn_76 : decode prog_1_method_28_code 76 = .ok (.aload_n 2, 1) := by decide +kernel
theorem dX0_staysAfterTurn_77 : decode prog_1_method_28_code 77 = .ok (.invokevirtual 139, 3) := by decide +kernel
theorem dX0_staysAfterTurn_80 : decode prog_1_method_28_code 80 = .ok (.iconst 1, 1) := by decide +kernel
theorem dX0_staysAfterTurn_81 : decode prog_1_method_28_code 81 = .ok (.ireturn, 1) := by decide +kernel
def wpX0_staysAfterTurn (K : KX) (post : Int32 → gS → Prop) (u : gS) (p1 : Int32) : Prop :=
  wpX1_at K (fun (r1 : Option Nat) (u2 : gS) => ((r1 = none → (narrow .boolean (.int 1) = .int 1 ∧ post 1 u2)) ∧ (∀ y3 : Nat, r1 = some y3 → (y3 ∈ K.2.1 ∧ (∀ r5 : Option Nat, r5 = sQ u2 4 y3 → (((r5 = none → (narrow .boolean (.int 1) = .int 1 ∧ post 1 u2)) ∧ (∀ y6 : Nat, r5 = some y6 → (∀ u7 : gS, u7 = tA u2 3 y3 ((sA u2 3 y3) - 1) → ((((sA u7 3 y3) ≤ 0 → (∀ r9 : Option Nat, r9 = sQ u7 4 y3 → (∃ y10 : Nat, r9 = some y10 ∧ y10 ∈ K.2.2.1 ∧ (wpX0_performAndEnd K (wpX0_admit 26) (fun (u13 : gS) => ((¬ (sA u13 0 y10) = 4 → (wpX0_freeWorker K (fun (u16 : gS) => narrow .boolean (.int 1) = .int 1 ∧ post 1 u16) u13 (some y3))) ∧ ((sA u13 0 y10) = 4 → (((¬ (sA u13 2 y10) = 5 → (wpX0_freeWorker K (fun (u19 : gS) => narrow .boolean (.int 1) = .int 1 ∧ post 1 u19) u13 (some y3))) ∧ ((sA u13 2 y10) = 5 → (wpX0_replaceWorker K (fun (u21 : gS) => narrow .boolean (.int 0) = .int 0 ∧ post 0 u21) u13 p1))))))) u7 y10 0)))) ∧ (¬ (sA u7 3 y3) ≤ 0 → (narrow .boolean (.int 1) = .int 1 ∧ post 1 u7))))))))))))) u p1

set_option maxHeartbeats 8000000 in
set_option maxRecDepth 100000 in
theorem cX0_staysAfterTurn (l : Launch) (dC : Nat → ClassId) (dI : Nat → Nat → Nat) (ad : Nat → Nat) (ca : Nat → ClassId) (K : KX) (sz : Nat) (u : gS) (p1 : Int32) (post : Int32 → gS → Prop)  (h : wpX0_staysAfterTurn K post u p1) : Met l ⟨"WorkHall", "staysAfterTurn", "(I)Z"⟩ (gw ⟨"WorkHall", "staysAfterTurn", "(I)Z"⟩ prog_1_method_28_code 4 (some .boolean)) ({ frames := 111, cells := 0, slots := 0, locals := 4440 } : Room) (va_Pc [.ref (ad 0), .int p1] (gB (dC, dI) vwCl (xT ca) xE (wX ad ca K u) sz)) (va_Qi post (gAt (dC, dI) vwCl (xT ca) (wX ad ca K) (va_A (wX ad ca K u) sz)) (va_A (wX ad ca K u) sz)) 0 0 (va_A (wX ad ca K u) sz) := by
  refine Met.ofW (cc := prog_1_method_28_code) (maxL := 4) (ret := (some .boolean)) (by decide) rfl ?_
  intro p e s m args below meth c s₁ B hml hv
  obtain ⟨rfl, hsz, hP, hK, hD0, hE⟩ := hv
  have hx := B.exec
  have hb := B.bytes
  have hr := B.returns
  have hts : ∀ w ∈ gW, w.before _ s = true := fun w h9 => atoms_spec (ws := (gw ⟨"WorkHall", "staysAfterTurn", "(I)Z"⟩ prog_1_method_28_code 4 (some .boolean))) B.pre w (List.mem_cons_of_mem _ h9)
  have hown : s.vm.findClass RX0 = some m.cls := findClass_of_methodNamed B.named
  have hlocks := B.notSynchronized
  subst hsz
  have hD := hD0.self (sz := s.heap.size)
  generalize hAe : va_A (wX ad ca K u) s.heap.size = A at hD hE ⊢
  have hA : ∀ q : Nat, s.heap.size ≤ q → A q := fun q h => by rw [← hAe]; exact Or.inr h
  obtain ⟨H, hHe⟩ : ∃ z : Heap, z = s.heap := ⟨_, rfl⟩
  rw [← hHe]
  have hS : va_S A s.heap H [] := by rw [hHe]; exact va_S.rf
  have hP : va_P (dC, dI) vwCl (wX ad ca K u) H := by rw [hHe]; exact hP
  have hl := lv_entry ([.ref (ad 0), .int p1]) (n := 4) (Nat.le_of_ble_eq_true rfl)
  rw [lg_entry_eq]
  generalize (lg_sl ([.ref (ad 0), .int p1]) ++ List.replicate (4 - (lg_sl ([.ref (ad 0), .int p1])).length) Slot.unset).toArray = ls at hl ⊢
  have hl : lv_has ls 4 [(0, .ref (ad 0)), (1, .int p1)] := hl
  clear hAe
  refine lv_aload_n hx hb dX0_staysAfterTurn_0 rfl (lv_at hl 0 rfl) ?_
  refine va_get (D := (dC, dI)) (ci := 0) (v := .ref (ad 2)) (C := RX0) (T := TX0) (N := 12) hx hb hts uwX0 hown hK hP 0 rfl rfl 5 (by decide) (hts _ wd_177) (fun _ h9 => h9) rfl dX0_staysAfterTurn_1 ?_
  refine lv_iload_n hx hb dX0_staysAfterTurn_4 rfl (lv_at hl 1 rfl) ?_
  refine gc_q (w := wX ad ca K) (u := u) (va_runV (As := [.int p1]) (rest := []) ⟨hx, hb, hml, hown, hts⟩ (cX1_at l dC dI ad ca K H.size u p1 _ h) (cwV 1 hts (gG_V wd_503 wd_402 wd_403 wd_47 wd_404) rfl rfl rfl (by decide +kernel) ⟨Nat.le_of_ble_eq_true rfl, Nat.le_of_ble_eq_true rfl⟩) ⟨gB_blind xE_ok, va_recv hK hP (ci := 1) (q0 := 2) rfl rfl, gB_pre xE_ok hP hK hD hE hS hA⟩ rfl rfl hl.1 rfl (lv_room (Nat.le_of_ble_eq_true rfl)) dX0_staysAfterTurn_5 ⟨Nat.le_of_ble_eq_true rfl, Nat.le_of_ble_eq_true rfl⟩) hD hS hA (fun r1 u2 H locs h hP hD hS => ?_)
  refine gq_astore_n (r := r1) (lv' := [(2, va_rf r1), (0, .ref (ad 0)), (1, .int p1)]) hx hb dX0_staysAfterTurn_8 rfl hl (by decide) rfl (fun ls hl => ?_)
  refine gq_aload_n (r := r1) hx hb dX0_staysAfterTurn_9 rfl (lv_at hl 0 rfl) ?_
  rcases r1 with _ | y3
  · have h := h.1 rfl
    refine lv_ifnullN (tgt := 20) hx hb dX0_staysAfterTurn_10 (by decide) ?_
    refine lv_iconst (v := 1) hx hb dX0_staysAfterTurn_20 (by decide) ?_
    exact gr_z (w := wX ad ca K) (u := u2) hx hb hr hlocks h.1 h.2 hP hK hD hS dX0_staysAfterTurn_21
  · have h := h.2 y3 rfl
    refine lv_ifnull hx hb dX0_staysAfterTurn_10 ?_
    refine lv_aload_n hx hb dX0_staysAfterTurn_13 rfl (lv_at hl 0 rfl) ?_
    obtain ⟨hy4, h⟩ := h
    obtain ⟨k9, hk9⟩ := xW_get hy4
    refine va_get (D := (dC, dI)) (ci := 4) (v := va_rf (sQ u2 4 y3)) (C := RX4) (T := TX4) (N := 3) hx hb hts uwX4 hown hK hP k9 hk9 rfl 0 (by decide) (hts _ wd_88) (fun _ h9 => h9) rfl dX0_staysAfterTurn_14 ?_
    refine gq_top (fun r5 er5 => ?_)
    have h := h r5 er5
    rcases r5 with _ | y6
    · have h := h.1 rfl
      refine lv_ifnonnullN hx hb dX0_staysAfterTurn_17 ?_
      refine lv_iconst (v := 1) hx hb dX0_staysAfterTurn_20 (by decide) ?_
      exact gr_z (w := wX ad ca K) (u := u2) hx hb hr hlocks h.1 h.2 hP hK hD hS dX0_staysAfterTurn_21
    · have h := h.2 y6 rfl
      refine lv_ifnonnull (tgt := 22) hx hb dX0_staysAfterTurn_17 (by decide) ?_
      refine lv_aload_n hx hb dX0_staysAfterTurn_22 rfl (lv_at hl 0 rfl) ?_
      refine lv_dup hx hb dX0_staysAfterTurn_23 rfl ?_
      obtain ⟨k9, hk9⟩ := xW_get hy4
      refine va_get (D := (dC, dI)) (ci := 4) (v := .int (sA u2 3 y3)) (C := RX4) (T := TX4) (N := 3) hx hb hts uwX4 hown hK hP k9 hk9 rfl 1 (by decide) (hts _ wd_90) (fun _ h9 => h9) rfl dX0_staysAfterTurn_24 ?_
      refine lv_iconst (v := 1) hx hb dX0_staysAfterTurn_27 (by decide) ?_
      refine lv_isub hx hb dX0_staysAfterTurn_28 ?_
      obtain ⟨k9, hk9⟩ := xW_get hy4
      have e9 := xW_left (v := (sA u2 3 y3) - 1) hD hy4 hk9
      refine va_put (D := (dC, dI)) (ci := 4) (v := .int ((sA u2 3 y3) - 1)) (ty := tyX4 1) (C := RX4) (T := TX4) (N := 3) hx hb hts uwX4 tyX4 tyX4_ok nmX4 hown hK hP hD hS k9 hk9 rfl 1 (by decide) (hts _ wd_90) (fun _ h9 => h9) rfl (tyX4_ok 1 (by decide)) rfl rfl (Nat.le_of_ble_eq_true rfl) dX0_staysAfterTurn_29 (fun H locs hP hD hS => ?_)
      obtain ⟨u7, eu7⟩ : ∃ z : gS, z = tA u2 3 y3 ((sA u2 3 y3) - 1) := ⟨_, rfl⟩
      have hP : va_P (dC, dI) vwCl (wX ad ca K u7) H := by rw [eu7, ← e9]; exact hP
      have hD : va_D A (wX ad ca K u7) := by rw [eu7, ← e9]; exact hD
      have h := h u7 eu7
      refine lv_aload_n hx hb dX0_staysAfterTurn_32 rfl (lv_at hl 0 rfl) ?_
      obtain ⟨k9, hk9⟩ := xW_get hy4
      refine va_get (D := (dC, dI)) (ci := 4) (v := .int (sA u7 3 y3)) (C := RX4) (T := TX4) (N := 3) hx hb hts uwX4 hown hK hP k9 hk9 rfl 1 (by decide) (hts _ wd_90) (fun _ h9 => h9) rfl dX0_staysAfterTurn_33 ?_
      refine lv_if_le (tgt := 41) hx hb dX0_staysAfterTurn_36 (by decide) (fun c8 => ?_) (fun c8 => ?_)
      · have h := h.1 c8
        refine lv_aload_n hx hb dX0_staysAfterTurn_41 rfl (lv_at hl 0 rfl) ?_
        obtain ⟨k9, hk9⟩ := xW_get hy4
        refine va_get (D := (dC, dI)) (ci := 4) (v := va_rf (sQ u7 4 y3)) (C := RX4) (T := TX4) (N := 3) hx hb hts uwX4 hown hK hP k9 hk9 rfl 0 (by decide) (hts _ wd_88) (fun _ h9 => h9) rfl dX0_staysAfterTurn_42 ?_
        refine gq_top (fun r9 er9 => ?_)
        have h := h r9 er9
        refine gq_astore_n (r := r9) (lv' := [(3, va_rf r9), (2, .ref y3), (0, .ref (ad 0)), (1, .int p1)]) hx hb dX0_staysAfterTurn_45 rfl hl (by decide) rfl (fun ls hl => ?_)
        refine lv_aload_n hx hb dX0_staysAfterTurn_46 rfl (lv_at hl 2 rfl) ?_
        refine gq_aload_n (r := r9) hx hb dX0_staysAfterTurn_47 rfl (lv_at hl 0 rfl) ?_
        refine lv_iconst (v := 0) hx hb dX0_staysAfterTurn_48 (by decide) ?_
        obtain ⟨y10, rfl, hy11, h⟩ := h
        refine gc_v (w := wX ad ca K) (u := u7) (va_runV (As := [.ref y10, .int 0]) (rest := []) ⟨hx, hb, hml, hown, hts⟩ (cX0_performAndEnd l dC dI ad ca K 26 (wpX0_admit 26) H.size u7 y10 0 _ hy11 h (cX0_admit l dC dI ad ca K 26)) (cwV 2 hts (gG_V wd_427 wd_429 wd_5 wd_46 wd_430) rfl rfl rfl (by decide +kernel) ⟨Nat.le_of_ble_eq_true rfl, Nat.le_of_ble_eq_true rfl⟩) ⟨gB_blind xE_ok, va_recv hK hP (ci := 0) (q0 := 0) rfl rfl, gB_pre xE_ok hP hK hD hE hS hA⟩ rfl rfl hl.1 rfl (lv_room (Nat.le_of_ble_eq_true rfl)) dX0_staysAfterTurn_49 ⟨Nat.le_of_ble_eq_true rfl, Nat.le_of_ble_eq_true rfl⟩) hD hS hA (fun u13 H locs h hP hD hS => ?_)
        refine lv_aload_n hx hb dX0_staysAfterTurn_52 rfl (lv_at hl 0 rfl) ?_
        obtain ⟨k9, hk9⟩ := xJ_get hy11
        refine va_get (D := (dC, dI)) (ci := 5) (v := .int (sA u13 0 y10)) (C := RX5) (T := TX5) (N := 9) hx hb hts uwX5 hown hK hP k9 hk9 rfl 5 (by decide) (hts _ wd_327) (fun _ h9 => h9) rfl dX0_staysAfterTurn_53 ?_
        refine lv_iconst (v := 4) hx hb dX0_staysAfterTurn_56 (by decide) ?_
        refine lv_icmp_ne (tgt := 75) hx hb dX0_staysAfterTurn_57 (by decide) (fun c14 => ?_) (fun c14 => ?_)
        · have h := h.1 c14
          refine lv_aload_n hx hb dX0_staysAfterTurn_75 rfl (lv_at hl 2 rfl) ?_
          refine lv_aload_n hx hb dX0_staysAfterTurn_76 rfl (lv_at hl 1 rfl) ?_
          refine gc_v (w := wX ad ca K) (u := u13) (va_runV (As := [va_rf (some y3)]) (rest := []) ⟨hx, hb, hml, hown, hts⟩ (cX0_freeWorker l dC dI ad ca K H.size u13 (some y3) _ h) (cwV 1 hts (gG_V wd_517 wd_519 wd_11 wd_46 wd_520) rfl rfl rfl (by decide +kernel) ⟨Nat.le_of_ble_eq_true rfl, Nat.le_of_ble_eq_true rfl⟩) ⟨gB_blind xE_ok, va_recv hK hP (ci := 0) (q0 := 0) rfl rfl, gB_pre xE_ok hP hK hD hE hS hA⟩ rfl rfl hl.1 rfl (lv_room (Nat.le_of_ble_eq_true rfl)) dX0_staysAfterTurn_77 ⟨Nat.le_of_ble_eq_true rfl, Nat.le_of_ble_eq_true rfl⟩) hD hS hA (fun u16 H locs h hP hD hS => ?_)
          refine lv_iconst (v := 1) hx hb dX0_staysAfterTurn_80 (by decide) ?_
          exact gr_z (w := wX ad ca K) (u := u16) hx hb hr hlocks h.1 h.2 hP hK hD hS dX0_staysAfterTurn_81
        · have h := h.2 c14
          refine lv_aload_n hx hb dX0_staysAfterTurn_60 rfl (lv_at hl 0 rfl) ?_
          obtain ⟨k9, hk9⟩ := xJ_get hy11
          refine va_get (D := (dC, dI)) (ci := 5) (v := .int (sA u13 2 y10)) (C := RX5) (T := TX5) (N := 9) hx hb hts uwX5 hown hK hP k9 hk9 rfl 7 (by decide) (hts _ wd_333) (fun _ h9 => h9) rfl dX0_staysAfterTurn_61 ?_
          refine lv_iconst (v := 5) hx hb dX0_staysAfterTurn_64 (by decide) ?_
          refine lv_icmp_ne (tgt := 75) hx hb dX0_staysAfterTurn_65 (by decide) (fun c17 => ?_) (fun c17 => ?_)
          · have h := h.1 c17
            refine lv_aload_n hx hb dX0_staysAfterTurn_75 rfl (lv_at hl 2 rfl) ?_
            refine lv_aload_n hx hb dX0_staysAfterTurn_76 rfl (lv_at hl 1 rfl) ?_
            refine gc_v (w := wX ad ca K) (u := u13) (va_runV (As := [va_rf (some y3)]) (rest := []) ⟨hx, hb, hml, hown, hts⟩ (cX0_freeWorker l dC dI ad ca K H.size u13 (some y3) _ h) (cwV 1 hts (gG_V wd_517 wd_519 wd_11 wd_46 wd_520) rfl rfl rfl (by decide +kernel) ⟨Nat.le_of_ble_eq_true rfl, Nat.le_of_ble_eq_true rfl⟩) ⟨gB_blind xE_ok, va_recv hK hP (ci := 0) (q0 := 0) rfl rfl, gB_pre xE_ok hP hK hD hE hS hA⟩ rfl rfl hl.1 rfl (lv_room (Nat.le_of_ble_eq_true rfl)) dX0_staysAfterTurn_77 ⟨Nat.le_of_ble_eq_true rfl, Nat.le_of_ble_eq_true rfl⟩) hD hS hA (fun u19 H locs h hP hD hS => ?_)
            refine lv_iconst (v := 1) hx hb dX0_staysAfterTurn_80 (by decide) ?_
            exact gr_z (w := wX ad ca K) (u := u19) hx hb hr hlocks h.1 h.2 hP hK hD hS dX0_staysAfterTurn_81
          · have h := h.2 c17
            refine lv_aload_n hx hb dX0_staysAfterTurn_68 rfl (lv_at hl 2 rfl) ?_
            refine lv_iload_n hx hb dX0_staysAfterTurn_69 rfl (lv_at hl 3 rfl) ?_
            refine gc_v (w := wX ad ca K) (u := u13) (va_runV (As := [.int p1]) (rest := []) ⟨hx, hb, hml, hown, hts⟩ (cX0_replaceWorker l dC dI ad ca K H.size u13 p1 _ h) (cwV 1 hts (gG_V wd_504 wd_506 wd_10 wd_46 wd_507) rfl rfl rfl (by decide +kernel) ⟨Nat.le_of_ble_eq_true rfl, Nat.le_of_ble_eq_true rfl⟩) ⟨gB_blind xE_ok, va_recv hK hP (ci := 0) (q0 := 0) rfl rfl, gB_pre xE_ok hP hK hD hE hS hA⟩ rfl rfl hl.1 rfl (lv_room (Nat.le_of_ble_eq_true rfl)) dX0_staysAfterTurn_70 ⟨Nat.le_of_ble_eq_true rfl, Nat.le_of_ble_eq_true rfl⟩) hD hS hA (fun u21 H locs h hP hD hS => ?_)
            refine lv_iconst (v := 0) hx hb dX0_staysAfterTurn_73 (by decide) ?_
            exact gr_z (w := wX ad ca K) (u := u21) hx hb hr hlocks h.1 h.2 hP hK hD hS dX0_staysAfterTurn_74
      · have h := h.2 c8
        refine lv_iconst (v := 1) hx hb dX0_staysAfterTurn_39 (by decide) ?_
        exact gr_z (w := wX ad ca K) (u := u7) hx hb hr hlocks h.1 h.2 hP hK hD hS dX0_staysAfterTurn_40

theorem dX0_runStep_0 : decode prog_1_method_27_code 0 = .ok (.aload_n 0, 1) := by decide +kernel
theorem dX0_runStep_1 : decode prog_1_method_27_code 1 = .ok (.getfield 18, 3) := by decide +kernel
theorem dX0_runStep_4 : decode prog_1_method_27_code 4 = .ok (.getfield 214, 3) := by decide +kernel
theorem dX0_runStep_7 : decode prog_1_method_27_code 7 = .ok (.istore_n 1, 1) := by decide +kernel
theorem dX0_runStep_8 : decode prog_1_method_27_code 8 = .ok (.iconst 0, 1) := by decide +kernel
theorem dX0_runStep_9 : decode prog_1_method_27_code 9 = .ok (.istore_n 2, 1) := by decide +kernel
theorem dX0_runStep_10 : decode prog_1_method_27_code 10 = .ok (.iconst 0, 1) := by decide +kernel
theorem dX0_runStep_11 : decode prog_1_method_27_code 11 = .ok (.istore_n 3, 1) := by decide +kernel
theorem dX0_runStep_12 : decode prog_1_method_27_code 12 = .ok (.iload_n 3, 1) := by decide +kernel
theorem dX0_runStep_13 : decode prog_1_method_27_code 13 = .ok (.iload_n 1, 1) := by decide +kernel
theorem dX0_runStep_14 : decode prog_1_method_27_code 14 = .ok (.if_icmp .ge 20, 3) := by decide +kernel
theorem dX0_runStep_17 : decode prog_1_method_27_code 17 = .ok (.aload_n 0, 1) := by decide +kernel
theorem dX0_runStep_18 : decode prog_1_method_27_code 18 = .ok (.iload_n 2, 1) := by decide +kernel
theorem dX0_runStep_19 : decode prog_1_method_27_code 19 = .ok (.invokevirtual 291, 3) := by decide +kernel
theorem dX0_runStep_22 : decode prog_1_method_27_code 22 = .ok (.ifCond .eq 6, 3) := by decide +kernel
theorem dX0_runStep_25 : decode prog_1_method_27_code 25 = .ok (.iinc 2 1, 3) := by decide +kernel
theorem dX0_runStep_28 : decode prog_1_method_27_code 28 = .ok (.iinc 3 1, 3) := by decide +kernel
theorem dX0_runStep_31 : decode prog_1_method_27_code 31 = .ok (.goto (-19), 3) := by decide +kernel
theorem dX0_runStep_34 : decode prog_1_method_27_code 34 = .ok (.return_, 1) := by decide +kernel
def wpX0_runStep_12 (K : KX) (post : gS → Prop) : Nat → Int32 → Int32 → Int32 → gS → Prop
  | 0 => fun _ _ _ _ => False
  | n + 1 => fun l1 l2 l3 u => ((l1 ≤ l3 → (post u)) ∧ (¬ l1 ≤ l3 → (wpX0_staysAfterTurn K (fun (r3 : Int32) (u4 : gS) => ((r3 = 0 → (∀ x6 : Int32, x6 = l3 + 1 → (wpX0_runStep_12 K post n l1 l2 x6 u4))) ∧ (¬ r3 = 0 → (∀ x7 : Int32, x7 = l2 + 1 → (∀ x8 : Int32, x8 = l3 + 1 → (wpX0_runStep_12 K post n l1 x7 x8 u4)))))) u l2)))

def wpX0_runStep (K : KX) (post : gS → Prop) (u : gS)  : Prop :=
  ∀ x1 : Int32, x1 = sI u 2 → (∃ n12 : Nat, wpX0_runStep_12 K post n12 x1 0 0 u)

set_option maxHeartbeats 8000000 in
set_option maxRecDepth 100000 in
theorem wpX0_runStep_12_ok {p : Program} {l : Launch} {e : Env} {s : State} {m : MethodId} {args : Array Value} {below : List Frame} {meth : Method} {c : Code} {dC : Nat → ClassId} {dI : Nat → Nat → Nat} {ad : Nat → Nat} {ca : Nat → ClassId} {K : KX} {A : Nat → Prop} {post : gS → Prop}   (hx : p.tables.exec = Jvm.exec) (hb : c.code = prog_1_method_27_code) (hr : meth.sig.returnType = none) (hml : c.maxLocals = 4) (hown : s.vm.findClass RX0 = some m.cls) (hts : ∀ w ∈ gW, w.before args s = true) (hlocks : meth.locks = false) (hK : va_K (dC, dI) vwCl (xT ca) s) (hA : ∀ q, s.heap.size ≤ q → A q) (hE : xE A s s.heap) :
    ∀ (n : Nat) (l1 : Int32) (l2 : Int32) (l3 : Int32) (u : gS) (H : Heap) (locs : List Loc) (ls : Array Slot), wpX0_runStep_12 K post n l1 l2 l3 u → va_P (dC, dI) vwCl (wX ad ca K u) H → va_D A (wX ad ca K u) → va_S A s.heap H locs → lv_has ls 4 [(0, .ref (ad 0)), (1, .int l1), (2, .int l2), (3, .int l3)] → W p l e (headSpec (gw ⟨"WorkHall", "runStep", "()V"⟩ prog_1_method_27_code 4 none) ({ frames := 112, cells := 0, slots := 0, locals := 4480 } : Room)).room s m args below meth c H locs 0 0 (MQ below (va_Qv post (gAt (dC, dI) vwCl (xT ca) (wX ad ca K) (A)) (A)) args s 0 0 A) (F0 m 12 ls []) := by
  intro n
  induction n with
  | zero => exact fun _ _ _ _ _ _ _ h => h.elim
  | succ n ih =>
    intro l1 l2 l3 u H locs ls h hP hD hS hl
    refine lv_iload_n hx hb dX0_runStep_12 rfl (lv_at hl 3 rfl) ?_
    refine lv_iload_n hx hb dX0_runStep_13 rfl (lv_at hl 1 rfl) ?_
    refine lv_icmp_ge (tgt := 34) hx hb dX0_runStep_14 (by decide) (fun c2 => ?_) (fun c2 => ?_)
    · have h := h.1 c2
      exact gr_v (w := wX ad ca K) (u := u) hx hb hr hlocks h hP hK hD hS dX0_runStep_34
    · have h := h.2 c2
      refine lv_aload_n hx hb dX0_runStep_17 rfl (lv_at hl 0 rfl) ?_
      refine lv_iload_n hx hb dX0_runStep_18 rfl (lv_at hl 2 rfl) ?_
      refine gc_i (w := wX ad ca K) (u := u) (va_runV (As := [.int l2]) (rest := []) ⟨hx, hb, hml, hown, hts⟩ (cX0_staysAfterTurn l dC dI ad ca K H.size u l2 _ h) (cwV 1 hts (gG_V wd_499 wd_501 wd_9 wd_46 wd_502) rfl rfl rfl (by decide +kernel) ⟨Nat.le_of_ble_eq_true rfl, Nat.le_of_ble_eq_true rfl⟩) ⟨gB_blind xE_ok, va_recv hK hP (ci := 0) (q0 := 0) rfl rfl, gB_pre xE_ok hP hK hD hE hS hA⟩ rfl rfl hl.1 rfl (lv_room (Nat.le_of_ble_eq_true rfl)) dX0_runStep_19 ⟨Nat.le_of_ble_eq_true rfl, Nat.le_of_ble_eq_true rfl⟩) hD hS hA (fun r3 u4 H locs h hP hD hS => ?_)
      refine lv_if_eq (tgt := 28) hx hb dX0_runStep_22 (by decide) (fun c5 => ?_) (fun c5 => ?_)
      · have h := h.1 c5
        obtain ⟨x6, ex6⟩ : ∃ y : Int32, y = l3 + 1 := ⟨_, rfl⟩
        have h := h x6 ex6
        refine lv_iinc (v := x6) (lv' := [(3, .int x6), (0, .ref (ad 0)), (1, .int l1), (2, .int l2)]) hx hb dX0_runStep_28 hl (k := 3) rfl (by rw [ex6]; rfl) (by decide) rfl (fun ls hl => ?_)
        refine lv_goto (tgt := 12) hx hb dX0_runStep_31 (by decide) ?_
        exact ih l1 l2 x6 u4 _ _ _ h hP hD hS (lv_sub hl [1, 2, 3, 0] rfl)
      · have h := h.2 c5
        obtain ⟨x7, ex7⟩ : ∃ y : Int32, y = l2 + 1 := ⟨_, rfl⟩
        have h := h x7 ex7
        refine lv_iinc (v := x7) (lv' := [(2, .int x7), (0, .ref (ad 0)), (1, .int l1), (3, .int l3)]) hx hb dX0_runStep_25 hl (k := 2) rfl (by rw [ex7]; rfl) (by decide) rfl (fun ls hl => ?_)
        obtain ⟨x8, ex8⟩ : ∃ y : Int32, y = l3 + 1 := ⟨_, rfl⟩
        have h := h x8 ex8
        refine lv_iinc (v := x8) (lv' := [(3, .int x8), (2, .int x7), (0, .ref (ad 0)), (1, .int l1)]) hx hb dX0_runStep_28 hl (k := 3) rfl (by rw [ex8]; rfl) (by decide) rfl (fun ls hl => ?_)
        refine lv_goto (tgt := 12) hx hb dX0_runStep_31 (by decide) ?_
        exact ih l1 x7 x8 u4 _ _ _ h hP hD hS (lv_sub hl [2, 3, 1, 0] rfl)

set_option maxHeartbeats 8000000 in
set_option maxRecDepth 100000 in
theorem cX0_runStep (l : Launch) (dC : Nat → ClassId) (dI : Nat → Nat → Nat) (ad : Nat → Nat) (ca : Nat → ClassId) (K : KX) (sz : Nat) (u : gS)  (post : gS → Prop)  (h : wpX0_runStep K post u ) : Met l ⟨"WorkHall", "runStep", "()V"⟩ (gw ⟨"WorkHall", "runStep", "()V"⟩ prog_1_method_27_code 4 none) ({ frames := 112, cells := 0, slots := 0, locals := 4480 } : Room) (va_Pc [.ref (ad 0)] (gB (dC, dI) vwCl (xT ca) xE (wX ad ca K u) sz)) (va_Qv post (gAt (dC, dI) vwCl (xT ca) (wX ad ca K) (va_A (wX ad ca K u) sz)) (va_A (wX ad ca K u) sz)) 0 0 (va_A (wX ad ca K u) sz) := by
  refine Met.ofW (cc := prog_1_method_27_code) (maxL := 4) (ret := none) (by decide) rfl ?_
  intro p e s m args below meth c s₁ B hml hv
  obtain ⟨rfl, hsz, hP, hK, hD0, hE⟩ := hv
  have hx := B.exec
  have hb := B.bytes
  have hr := B.returns
  have hts : ∀ w ∈ gW, w.before _ s = true := fun w h9 => atoms_spec (ws := (gw ⟨"WorkHall", "runStep", "()V"⟩ prog_1_method_27_code 4 none)) B.pre w (List.mem_cons_of_mem _ h9)
  have hown : s.vm.findClass RX0 = some m.cls := findClass_of_methodNamed B.named
  have hlocks := B.notSynchronized
  subst hsz
  have hD := hD0.self (sz := s.heap.size)
  generalize hAe : va_A (wX ad ca K u) s.heap.size = A at hD hE ⊢
  have hA : ∀ q : Nat, s.heap.size ≤ q → A q := fun q h => by rw [← hAe]; exact Or.inr h
  obtain ⟨H, hHe⟩ : ∃ z : Heap, z = s.heap := ⟨_, rfl⟩
  rw [← hHe]
  have hS : va_S A s.heap H [] := by rw [hHe]; exact va_S.rf
  have hP : va_P (dC, dI) vwCl (wX ad ca K u) H := by rw [hHe]; exact hP
  have hl := lv_entry ([.ref (ad 0)]) (n := 4) (Nat.le_of_ble_eq_true rfl)
  rw [lg_entry_eq]
  generalize (lg_sl ([.ref (ad 0)]) ++ List.replicate (4 - (lg_sl ([.ref (ad 0)])).length) Slot.unset).toArray = ls at hl ⊢
  have hl : lv_has ls 4 [(0, .ref (ad 0))] := hl
  clear hAe
  refine lv_aload_n hx hb dX0_runStep_0 rfl (lv_at hl 0 rfl) ?_
  refine va_get (D := (dC, dI)) (ci := 0) (v := .ref (ad 2)) (C := RX0) (T := TX0) (N := 12) hx hb hts uwX0 hown hK hP 0 rfl rfl 5 (by decide) (hts _ wd_177) (fun _ h9 => h9) rfl dX0_runStep_1 ?_
  refine va_get (D := (dC, dI)) (ci := 1) (v := .int (sI u 2)) (C := RX1) (T := TX1) (N := 3) hx hb hts uwX1 hown hK hP 2 rfl rfl 1 (by decide) (hts _ wd_102) (fun _ h9 => h9) rfl dX0_runStep_4 ?_
  refine lv_topi (fun x1 ex1 => ?_)
  have h := h x1 ex1
  refine lv_istore_n (lv' := [(1, .int x1), (0, .ref (ad 0))]) hx hb dX0_runStep_7 rfl hl (by decide) rfl (fun ls hl => ?_)
  refine lv_iconst (v := 0) hx hb dX0_runStep_8 (by decide) ?_
  refine lv_istore_n (lv' := [(2, .int 0), (1, .int x1), (0, .ref (ad 0))]) hx hb dX0_runStep_9 rfl hl (by decide) rfl (fun ls hl => ?_)
  refine lv_iconst (v := 0) hx hb dX0_runStep_10 (by decide) ?_
  refine lv_istore_n (lv' := [(3, .int 0), (2, .int 0), (1, .int x1), (0, .ref (ad 0))]) hx hb dX0_runStep_11 rfl hl (by decide) rfl (fun ls hl => ?_)
  obtain ⟨n12, h⟩ := h
  exact wpX0_runStep_12_ok hx hb hr hml hown hts hlocks hK hA hE n12 x1 0 0 u _ _ _ h hP hD hS (lv_sub hl [3, 2, 1, 0] rfl)
end
section
theorem dX0_fire_0 : decode prog_1_method_31_code 0 = .ok (.iload_n 1, 1) := by decide +kernel
theorem dX0_fire_1 : decode prog_1_method_31_code 1 = .ok (.ifCond .lt 14, 3) := by decide +kernel
theorem dX0_fire_4 : decode prog_1_method_31_code 4 = .ok (.iload_n 1, 1) := by decide +kernel
theorem dX0_fire_5 : decode prog_1_method_31_code 5 = .ok (.aload_n 0, 1) := by decide +kernel
theorem dX0_fire_6 : decode prog_1_method_31_code 6 = .ok (.getfield 32, 3) := by decide +kernel
theorem dX0_fire_9 : decode prog_1_method_31_code 9 = .ok (.getfield 172, 3) := by decide +kernel
theorem dX0_fire_12 : decode prog_1_method_31_code 12 = .ok (.if_icmp .lt 4, 3) := by decide +kernel
theorem dX0_fire_15 : decode prog_1_method_31_code 15 = .ok (.return_, 1) := by decide +kernel
theorem dX0_fire_16 : decode prog_1_method_31_code 16 = .ok (.aload_n 0, 1) := by decide +kernel
theorem dX0_fire_17 : decode prog_1_method_31_code 17 = .ok (.getfield 32, 3) := by decide +kernel
theorem dX0_fire_20 : decode prog_1_method_31_code 20 = .ok (.getfield 312, 3) := by decide +kernel
theorem dX0_fire_23 : decode prog_1_method_31_code 23 = .ok (.iload_n 1, 1) := by decide +kernel
theorem dX0_fire_24 : decode prog_1_method_31_code 24 = .ok (.aaload, 1) := by decide +kernel
theorem dX0_fire_25 : decode prog_1_method_31_code 25 = .ok (.astore_n 2, 1) := by decide +kernel
theorem dX0_fire_26 : decode prog_1_method_31_code 26 = .ok (.aload_n 0, 1) := by decide +kernel
theorem dX0_fire_27 : decode prog_1_method_31_code 27 = .ok (.getfield 32, 3) := by decide +kernel
theorem dX0_fire_30 : decode prog_1_method_31_code 30 = .ok (.getfield 232, 3) := by decide +kernel
theorem dX0_fire_33 : decode prog_1_method_31_code 33 = .ok (.iload_n 1, 1) := by decide +kernel
theorem dX0_fire_34 : decode prog_1_method_31_code 34 = .ok (.daload, 1) := by decide +kernel
theorem dX0_fire_35 : decode prog_1_method_31_code 35 = .ok (.dstore_n 3, 1) := by decide +kernel
theorem dX0_fire_36 : decode prog_1_method_31_code 36 = .ok (.aload_n 0, 1) := by decide +kernel
theorem dX0_fire_37 : decode prog_1_method_31_code 37 = .ok (.getfield 32, 3) := by decide +kernel
theorem dX0_fire_40 : decode prog_1_method_31_code 40 = .ok (.getfield 313, 3) := by decide +kernel
theorem dX0_fire_43 : decode prog_1_method_31_code 43 = .ok (.iload_n 1, 1) := by decide +kernel
theorem dX0_fire_44 : decode prog_1_method_31_code 44 = .ok (.daload, 1) := by decide +kernel
theorem dX0_fire_45 : decode prog_1_method_31_code 45 = .ok (.dstore 5, 2) := by decide +kernel
theorem dX0_fire_47 : decode prog_1_method_31_code 47 = .ok (.aload_n 0, 1) := by decide +kernel
theorem dX0_fire_48 : decode prog_1_method_31_code 48 = .ok (.getfield 32, 3) := by decide +kernel
theorem dX0_fire_51 : decode prog_1_method_31_code 51 = .ok (.iload_n 1, 1) := by decide +kernel
theorem dX0_fire_52 : decode prog_1_method_31_code 52 = .ok (.invokevirtual 316, 3) := by decide +kernel
theorem dX0_fire_55 : decode prog_1_method_31_code 55 = .ok (.dload_n 3, 1) := by decide +kernel
theorem dX0_fire_56 : decode prog_1_method_31_code 56 = .ok (.aload_n 0, 1) := by decide +kernel
theorem dX0_fire_57 : decode prog_1_method_31_code 57 = .ok (.getfield 46, 3) := by decide +kernel
theorem dX0_fire_60 : decode prog_1_method_31_code 60 = .ok (.dcmp .l, 1) := by decide +kernel
theorem dX0_fire_61 : decode prog_1_method_31_code 61 = .ok (.ifCond .le 8, 3) := by decide +kernel
theorem dX0_fire_64 : decode prog_1_method_31_code 64 = .ok (.aload_n 0, 1) := by decide +kernel
theorem dX0_fire_65 : decode prog_1_method_31_code 65 = .ok (.dload_n 3, 1) := by decide +kernel
theorem dX0_fire_66 : decode prog_1_method_31_code 66 = .ok (.putfield 46, 3) := by decide +kernel
theorem dX0_fire_69 : decode prog_1_method_31_code 69 = .ok (.aload_n 2, 1) := by decide +kernel
theorem dX0_fire_70 : decode prog_1_method_31_code 70 = .ok (.getfield 90, 3) := by decide +kernel
theorem dX0_fire_73 : decode prog_1_method_31_code 73 = .ok (.iconst 3, 1) := by decide +kernel
theorem dX0_fire_74 : decode prog_1_method_31_code 74 = .ok (.if_icmp .eq 11, 3) := by decide +kernel
theorem dX0_fire_77 : decode prog_1_method_31_code 77 = .ok (.aload_n 2, 1) := by decide +kernel
theorem dX0_fire_78 : decode prog_1_method_31_code 78 = .ok (.getfield 90, 3) := by decide +kernel
theorem dX0_fire_81 : decode prog_1_method_31_code 81 = .ok (.iconst 4, 1) := by decide +kernel
theorem dX0_fire_82 : decode prog_1_method_31_code 82 = .ok (.if_icmp .ne 8, 3) := by decide +kernel
theorem dX0_fire_85 : decode prog_1_method_31_code 85 = .ok (.aload_n 2, 1) := by decide +kernel
theorem dX0_fire_86 : decode prog_1_method_31_code 86 = .ok (.iconst 0, 1) := by decide +kernel
theorem dX0_fire_87 : decode prog_1_method_31_code 87 = .ok (.putfield 90, 3) := by decide +kernel
theorem dX0_fire_90 : decode prog_1_method_31_code 90 = .ok (.aload_n 2, 1) := by decide +kernel
theorem dX0_fire_91 : decode prog_1_method_31_code 91 = .ok (.getfield 90, 3) := by decide +kernel
theorem dX0_fire_94 : decode prog_1_method_31_code 94 = .ok (.ifCond .ne 9, 3) := by decide +kernel
theorem dX0_fire_97 : decode prog_1_method_31_code 97 = .ok (.aload_n 0, 1) := by decide +kernel
theorem dX0_fire_98 : decode prog_1_method_31_code 98 = .ok (.aload_n 2, 1) := by decide +kernel
theorem dX0_fire_99 : decode prog_1_method_31_code 99 = .ok (.iconst 0, 1) := by decide +kernel
theorem dX0_fire_100 : decode prog_1_method_31_code 100 = .ok (.invokevirtual 95, 3) := by decide +kernel
theorem dX0_fire_103 : decode prog_1_method_31_code 103 = .ok (.dload 5, 2) := by decide +kernel
theorem dX0_fire_105 : decode prog_1_method_31_code 105 = .ok (.dconst 0, 1) := by decide +kernel
theorem dX0_fire_106 : decode prog_1_method_31_code 106 = .ok (.dcmp .l, 1) := by decide +kernel
theorem dX0_fire_107 : decode prog_1_method_31_code 107 = .ok (.ifCond .le 24, 3) := by decide +kernel
theorem dX0_fire_110 : decode prog_1_method_31_code 110 = .ok (.aload_n 0, 1) := by decide +kernel
theorem dX0_fire_111 : decode prog_1_method_31_code 111 = .ok (.getfield 40, 3) := by decide +kernel
theorem dX0_fire_114 : decode prog_1_method_31_code 114 = .ok (.ifCond .ne 17, 3) := by decide +kernel
theorem dX0_fire_117 : decode prog_1_method_31_code 117 = .ok (.aload_n 0, 1) := by decide +kernel
theorem dX0_fire_118 : decode prog_1_method_31_code 118 = .ok (.getfield 32, 3) := by decide +kernel
theorem dX0_fire_121 : decode prog_1_method_31_code 121 = .ok (.aload_n 2, 1) := by decide +kernel
theorem dX0_fire_122 : decode prog_1_method_31_code 122 = .ok (.dload_n 3, 1) := by decide +kernel
theorem dX0_fire_123 : decode prog_1_method_31_code 123 = .ok (.dload 5, 2) := by decide +kernel
theorem dX0_fire_125 : decode prog_1_method_31_code 125 = .ok (.dadd, 1) := by decide +kernel
theorem dX0_fire_126 : decode prog_1_method_31_code 126 = .ok (.dload 5, 2) := by decide +kernel
theorem dX0_fire_128 : decode prog_1_method_31_code 128 = .ok (.invokevirtual 177, 3) := by decide +kernel
theorem dX0_fire_131 : decode prog_1_method_31_code 131 = .ok (.return_, 1) := by decide +kernel
def wpX0_fire (K : KX) (post : gS → Prop) (u : gS) (p1 : Int32) : Prop :=
  ((p1 < 0 → (post u)) ∧ (¬ p1 < 0 → (((p1 < (sI u 6) → (vp_in p1 10 ∧ (∀ r3 : Option Nat, r3 = sQ u 2 p1.toNatClampNeg → (vp_in p1 10 ∧ (∀ x4 : UInt64, x4 = sB u 1 p1.toNatClampNeg → (vp_in p1 10 ∧ (∀ x5 : UInt64, x5 = sB u 2 p1.toNatClampNeg → (wpX3_removeAt K (fun (u7 : gS) => (((Op.cmpValue (FP.dcmp x4 (sD u7 0)) .l) ≤ 0 → (∃ y9 : Nat, r3 = some y9 ∧ y9 ∈ K.2.2.1 ∧ ((((sA u7 0 y9) = 3 → (∀ u12 : gS, u12 = tA u7 0 y9 0 → (((¬ (sA u12 0 y9) = 0 → ((((Op.cmpValue (FP.dcmp x5 FP.dconst0) .l) ≤ 0 → (post u12)) ∧ (¬ (Op.cmpValue (FP.dcmp x5 FP.dconst0) .l) ≤ 0 → (((¬ (sI u12 0) = 0 → (post u12)) ∧ ((sI u12 0) = 0 → (vf_n64 (FP.dadd x4 x5) ∧ (wpX3_put K (fun (u17 : gS) => post u17) u12 y9 (FP.dadd x4 x5) x5))))))))) ∧ ((sA u12 0 y9) = 0 → (wpX0_admit 26 K (fun (u19 : gS) => (((Op.cmpValue (FP.dcmp x5 FP.dconst0) .l) ≤ 0 → (post u19)) ∧ (¬ (Op.cmpValue (FP.dcmp x5 FP.dconst0) .l) ≤ 0 → (((¬ (sI u19 0) = 0 → (post u19)) ∧ ((sI u19 0) = 0 → (vf_n64 (FP.dadd x4 x5) ∧ (wpX3_put K (fun (u23 : gS) => post u23) u19 y9 (FP.dadd x4 x5) x5)))))))) u12 y9 0)))))) ∧ (¬ (sA u7 0 y9) = 3 → (((¬ (sA u7 0 y9) = 4 → (((¬ (sA u7 0 y9) = 0 → ((((Op.cmpValue (FP.dcmp x5 FP.dconst0) .l) ≤ 0 → (post u7)) ∧ (¬ (Op.cmpValue (FP.dcmp x5 FP.dconst0) .l) ≤ 0 → (((¬ (sI u7 0) = 0 → (post u7)) ∧ ((sI u7 0) = 0 → (vf_n64 (FP.dadd x4 x5) ∧ (wpX3_put K (fun (u29 : gS) => post u29) u7 y9 (FP.dadd x4 x5) x5))))))))) ∧ ((sA u7 0 y9) = 0 → (wpX0_admit 26 K (fun (u31 : gS) => (((Op.cmpValue (FP.dcmp x5 FP.dconst0) .l) ≤ 0 → (post u31)) ∧ (¬ (Op.cmpValue (FP.dcmp x5 FP.dconst0) .l) ≤ 0 → (((¬ (sI u31 0) = 0 → (post u31)) ∧ ((sI u31 0) = 0 → (vf_n64 (FP.dadd x4 x5) ∧ (wpX3_put K (fun (u35 : gS) => post u35) u31 y9 (FP.dadd x4 x5) x5)))))))) u7 y9 0))))) ∧ ((sA u7 0 y9) = 4 → (∀ u36 : gS, u36 = tA u7 0 y9 0 → (((¬ (sA u36 0 y9) = 0 → ((((Op.cmpValue (FP.dcmp x5 FP.dconst0) .l) ≤ 0 → (post u36)) ∧ (¬ (Op.cmpValue (FP.dcmp x5 FP.dconst0) .l) ≤ 0 → (((¬ (sI u36 0) = 0 → (post u36)) ∧ ((sI u36 0) = 0 → (vf_n64 (FP.dadd x4 x5) ∧ (wpX3_put K (fun (u41 : gS) => post u41) u36 y9 (FP.dadd x4 x5) x5))))))))) ∧ ((sA u36 0 y9) = 0 → (wpX0_admit 26 K (fun (u43 : gS) => (((Op.cmpValue (FP.dcmp x5 FP.dconst0) .l) ≤ 0 → (post u43)) ∧ (¬ (Op.cmpValue (FP.dcmp x5 FP.dconst0) .l) ≤ 0 → (((¬ (sI u43 0) = 0 → (post u43)) ∧ ((sI u43 0) = 0 → (vf_n64 (FP.dadd x4 x5) ∧ (wpX3_put K (fun (u47 : gS) => post u47) u43 y9 (FP.dadd x4 x5) x5)))))))) u36 y9 0))))))))))))) ∧ (¬ (Op.cmpValue (FP.dcmp x4 (sD u7 0)) .l) ≤ 0 → (∀ u48 : gS, u48 = tD u7 0 x4 → (∃ y49 : Nat, r3 = some y49 ∧ y49 ∈ K.2.2.1 ∧ ((((sA u48 0 y49) = 3 → (∀ u52 : gS, u52 = tA u48 0 y49 0 → (((¬ (sA u52 0 y49) = 0 → ((((Op.cmpValue (FP.dcmp x5 FP.dconst0) .l) ≤ 0 → (post u52)) ∧ (¬ (Op.cmpValue (FP.dcmp x5 FP.dconst0) .l) ≤ 0 → (((¬ (sI u52 0) = 0 → (post u52)) ∧ ((sI u52 0) = 0 → (vf_n64 (FP.dadd x4 x5) ∧ (wpX3_put K (fun (u57 : gS) => post u57) u52 y49 (FP.dadd x4 x5) x5))))))))) ∧ ((sA u52 0 y49) = 0 → (wpX0_admit 26 K (fun (u59 : gS) => (((Op.cmpValue (FP.dcmp x5 FP.dconst0) .l) ≤ 0 → (post u59)) ∧ (¬ (Op.cmpValue (FP.dcmp x5 FP.dconst0) .l) ≤ 0 → (((¬ (sI u59 0) = 0 → (post u59)) ∧ ((sI u59 0) = 0 → (vf_n64 (FP.dadd x4 x5) ∧ (wpX3_put K (fun (u63 : gS) => post u63) u59 y49 (FP.dadd x4 x5) x5)))))))) u52 y49 0)))))) ∧ (¬ (sA u48 0 y49) = 3 → (((¬ (sA u48 0 y49) = 4 → (((¬ (sA u48 0 y49) = 0 → ((((Op.cmpValue (FP.dcmp x5 FP.dconst0) .l) ≤ 0 → (post u48)) ∧ (¬ (Op.cmpValue (FP.dcmp x5 FP.dconst0) .l) ≤ 0 → (((¬ (sI u48 0) = 0 → (post u48)) ∧ ((sI u48 0) = 0 → (vf_n64 (FP.dadd x4 x5) ∧ (wpX3_put K (fun (u69 : gS) => post u69) u48 y49 (FP.dadd x4 x5) x5))))))))) ∧ ((sA u48 0 y49) = 0 → (wpX0_admit 26 K (fun (u71 : gS) => (((Op.cmpValue (FP.dcmp x5 FP.dconst0) .l) ≤ 0 → (post u71)) ∧ (¬ (Op.cmpValue (FP.dcmp x5 FP.dconst0) .l) ≤ 0 → (((¬ (sI u71 0) = 0 → (post u71)) ∧ ((sI u71 0) = 0 → (vf_n64 (FP.dadd x4 x5) ∧ (wpX3_put K (fun (u75 : gS) => post u75) u71 y49 (FP.dadd x4 x5) x5)))))))) u48 y49 0))))) ∧ ((sA u48 0 y49) = 4 → (∀ u76 : gS, u76 = tA u48 0 y49 0 → (((¬ (sA u76 0 y49) = 0 → ((((Op.cmpValue (FP.dcmp x5 FP.dconst0) .l) ≤ 0 → (post u76)) ∧ (¬ (Op.cmpValue (FP.dcmp x5 FP.dconst0) .l) ≤ 0 → (((¬ (sI u76 0) = 0 → (post u76)) ∧ ((sI u76 0) = 0 → (vf_n64 (FP.dadd x4 x5) ∧ (wpX3_put K (fun (u81 : gS) => post u81) u76 y49 (FP.dadd x4 x5) x5))))))))) ∧ ((sA u76 0 y49) = 0 → (wpX0_admit 26 K (fun (u83 : gS) => (((Op.cmpValue (FP.dcmp x5 FP.dconst0) .l) ≤ 0 → (post u83)) ∧ (¬ (Op.cmpValue (FP.dcmp x5 FP.dconst0) .l) ≤ 0 → (((¬ (sI u83 0) = 0 → (post u83)) ∧ ((sI u83 0) = 0 → (vf_n64 (FP.dadd x4 x5) ∧ (wpX3_put K (fun (u87 : gS) => post u87) u83 y49 (FP.dadd x4 x5) x5)))))))) u76 y49 0)))))))))))))))) u p1)))))))) ∧ (¬ p1 < (sI u 6) → (post u))))))

set_option maxHeartbeats 8000000 in
set_option maxRecDepth 100000 in
theorem cX0_fire (l : Launch) (dC : Nat → ClassId) (dI : Nat → Nat → Nat) (ad : Nat → Nat) (ca : Nat → ClassId) (K : KX) (sz : Nat) (u : gS) (p1 : Int32) (post : gS → Prop)  (h : wpX0_fire K post u p1) : Met l ⟨"WorkHall", "fire", "(I)V"⟩ (gw ⟨"WorkHall", "fire", "(I)V"⟩ prog_1_method_31_code 7 none) ({ frames := 109, cells := 0, slots := 0, locals := 4360 } : Room) (va_Pc [.ref (ad 0), .int p1] (gB (dC, dI) vwCl (xT ca) xE (wX ad ca K u) sz)) (va_Qv post (gAt (dC, dI) vwCl (xT ca) (wX ad ca K) (va_A (wX ad ca K u) sz)) (va_A (wX ad ca K u) sz)) 0 0 (va_A (wX ad ca K u) sz) := by
  refine Met.ofW (cc := prog_1_method_31_code) (maxL := 7) (ret := none) (by decide) rfl ?_
  intro p e s m args below meth c s₁ B hml hv
  obtain ⟨rfl, hsz, hP, hK, hD0, hE⟩ := hv
  have hx := B.exec
  have hb := B.bytes
  have hr := B.returns
  have hts : ∀ w ∈ gW, w.before _ s = true := fun w h9 => atoms_spec (ws := (gw ⟨"WorkHall", "fire", "(I)V"⟩ prog_1_method_31_code 7 none)) B.pre w (List.mem_cons_of_mem _ h9)
  have hown : s.vm.findClass RX0 = some m.cls := findClass_of_methodNamed B.named
  have hlocks := B.notSynchronized
  subst hsz
  have hD := hD0.self (sz := s.heap.size)
  generalize hAe : va_A (wX ad ca K u) s.heap.size = A at hD hE ⊢
  have hA : ∀ q : Nat, s.heap.size ≤ q → A q := fun q h => by rw [← hAe]; exact Or.inr h
  obtain ⟨H, hHe⟩ : ∃ z : Heap, z = s.heap := ⟨_, rfl⟩
  rw [← hHe]
  have hS : va_S A s.heap H [] := by rw [hHe]; exact va_S.rf
  have hP : va_P (dC, dI) vwCl (wX ad ca K u) H := by rw [hHe]; exact hP
  have hl := lv_entry ([.ref (ad 0), .int p1]) (n := 7) (Nat.le_of_ble_eq_true rfl)
  rw [lg_entry_eq]
  generalize (lg_sl ([.ref (ad 0), .int p1]) ++ List.replicate (7 - (lg_sl ([.ref (ad 0), .int p1])).length) Slot.unset).toArray = ls at hl ⊢
  have hl : lv_has ls 7 [(0, .ref (ad 0)), (1, .int p1)] := hl
  clear hAe
  refine lv_iload_n hx hb dX0_fire_0 rfl (lv_at hl 1 rfl) ?_
  refine lv_if_lt (tgt := 15) hx hb dX0_fire_1 (by decide) (fun c1 => ?_) (fun c1 => ?_)
  · have h := h.1 c1
    exact gr_v (w := wX ad ca K) (u := u) hx hb hr hlocks h hP hK hD hS dX0_fire_15
  · have h := h.2 c1
    refine lv_iload_n hx hb dX0_fire_4 rfl (lv_at hl 1 rfl) ?_
    refine lv_aload_n hx hb dX0_fire_5 rfl (lv_at hl 0 rfl) ?_
    refine va_get (D := (dC, dI)) (ci := 0) (v := .ref (ad 7)) (C := RX0) (T := TX0) (N := 12) hx hb hts uwX0 hown hK hP 0 rfl rfl 7 (by decide) (hts _ wd_179) (fun _ h9 => h9) rfl dX0_fire_6 ?_
    refine va_get (D := (dC, dI)) (ci := 3) (v := .int (sI u 6)) (C := RX3) (T := TX3) (N := 4) hx hb hts uwX3 hown hK hP 7 rfl rfl 3 (by decide) (hts _ wd_153) (fun _ h9 => h9) rfl dX0_fire_9 ?_
    refine lv_icmp_lt (tgt := 16) hx hb dX0_fire_12 (by decide) (fun c2 => ?_) (fun c2 => ?_)
    · have h := h.1 c2
      refine lv_aload_n hx hb dX0_fire_16 rfl (lv_at hl 0 rfl) ?_
      refine va_get (D := (dC, dI)) (ci := 0) (v := .ref (ad 7)) (C := RX0) (T := TX0) (N := 12) hx hb hts uwX0 hown hK hP 0 rfl rfl 7 (by decide) (hts _ wd_179) (fun _ h9 => h9) rfl dX0_fire_17 ?_
      refine va_get (D := (dC, dI)) (ci := 3) (v := .ref (ad 8)) (C := RX3) (T := TX3) (N := 4) hx hb hts uwX3 hown hK hP 7 rfl rfl 0 (by decide) (hts _ wd_147) (fun _ h9 => h9) rfl dX0_fire_20 ?_
      refine lv_iload_n hx hb dX0_fire_23 rfl (lv_at hl 1 rfl) ?_
      refine va_aldq (C := RX5) hx hb hK hP 8 0 rfl rfl h.1 dX0_fire_24 ?_
      have h := h.2
      refine gq_top (fun r3 er3 => ?_)
      have h := h r3 er3
      refine gq_astore_n (r := r3) (lv' := [(2, va_rf r3), (0, .ref (ad 0)), (1, .int p1)]) hx hb dX0_fire_25 rfl hl (by decide) rfl (fun ls hl => ?_)
      refine lv_aload_n hx hb dX0_fire_26 rfl (lv_at hl 1 rfl) ?_
      refine va_get (D := (dC, dI)) (ci := 0) (v := .ref (ad 7)) (C := RX0) (T := TX0) (N := 12) hx hb hts uwX0 hown hK hP 0 rfl rfl 7 (by decide) (hts _ wd_179) (fun _ h9 => h9) rfl dX0_fire_27 ?_
      refine va_get (D := (dC, dI)) (ci := 3) (v := .ref (ad 9)) (C := RX3) (T := TX3) (N := 4) hx hb hts uwX3 hown hK hP 7 rfl rfl 1 (by decide) (hts _ wd_149) (fun _ h9 => h9) rfl dX0_fire_30 ?_
      refine lv_iload_n hx hb dX0_fire_33 rfl (lv_at hl 2 rfl) ?_
      refine va_dald hx hb hK hP 9 2 rfl rfl h.1 dX0_fire_34 ?_
      have h := h.2
      refine lv_topd (fun x4 ex4 => ?_)
      have h := h x4 ex4
      refine lv_dstore_n (lv' := [(3, .double x4), (2, va_rf r3), (0, .ref (ad 0)), (1, .int p1)]) hx hb dX0_fire_35 rfl hl (by decide) (by cases r3 <;> rfl) (fun ls hl => ?_)
      refine lv_aload_n hx hb dX0_fire_36 rfl (lv_at hl 2 rfl) ?_
      refine va_get (D := (dC, dI)) (ci := 0) (v := .ref (ad 7)) (C := RX0) (T := TX0) (N := 12) hx hb hts uwX0 hown hK hP 0 rfl rfl 7 (by decide) (hts _ wd_179) (fun _ h9 => h9) rfl dX0_fire_37 ?_
      refine va_get (D := (dC, dI)) (ci := 3) (v := .ref (ad 10)) (C := RX3) (T := TX3) (N := 4) hx hb hts uwX3 hown hK hP 7 rfl rfl 2 (by decide) (hts _ wd_151) (fun _ h9 => h9) rfl dX0_fire_40 ?_
      refine lv_iload_n hx hb dX0_fire_43 rfl (lv_at hl 3 rfl) ?_
      refine va_dald hx hb hK hP 10 2 rfl rfl h.1 dX0_fire_44 ?_
      have h := h.2
      refine lv_topd (fun x5 ex5 => ?_)
      have h := h x5 ex5
      refine lv_dstore (lv' := [(5, .double x5), (3, .double x4), (2, va_rf r3), (0, .ref (ad 0)), (1, .int p1)]) hx hb dX0_fire_45 hl (by decide) rfl (fun ls hl => ?_)
      refine lv_aload_n hx hb dX0_fire_47 rfl (lv_at hl 3 rfl) ?_
      refine va_get (D := (dC, dI)) (ci := 0) (v := .ref (ad 7)) (C := RX0) (T := TX0) (N := 12) hx hb hts uwX0 hown hK hP 0 rfl rfl 7 (by decide) (hts _ wd_179) (fun _ h9 => h9) rfl dX0_fire_48 ?_
      refine lv_iload_n hx hb dX0_fire_51 rfl (lv_at hl 4 rfl) ?_
      refine gc_v (w := wX ad ca K) (u := u) (va_runV (As := [.int p1]) (rest := []) ⟨hx, hb, hml, hown, hts⟩ (cX3_removeAt l dC dI ad ca K H.size u p1 _ h) (cwV 1 hts (gG_V wd_625 wd_626 wd_627 wd_50 wd_628) rfl rfl rfl (by decide +kernel) ⟨Nat.le_of_ble_eq_true rfl, Nat.le_of_ble_eq_true rfl⟩) ⟨gB_blind xE_ok, va_recv hK hP (ci := 3) (q0 := 7) rfl rfl, gB_pre xE_ok hP hK hD hE hS hA⟩ rfl rfl hl.1 rfl (lv_room (Nat.le_of_ble_eq_true rfl)) dX0_fire_52 ⟨Nat.le_of_ble_eq_true rfl, Nat.le_of_ble_eq_true rfl⟩) hD hS hA (fun u7 H locs h hP hD hS => ?_)
      refine lv_dload_n hx hb dX0_fire_55 rfl (lv_at hl 1 rfl) ?_
      refine lv_aload_n hx hb dX0_fire_56 rfl (lv_at hl 3 rfl) ?_
      refine va_get (D := (dC, dI)) (ci := 0) (v := .double (sD u7 0)) (C := RX0) (T := TX0) (N := 12) hx hb hts uwX0 hown hK hP 0 rfl rfl 11 (by decide) (hts _ wd_183) (fun _ h9 => h9) rfl dX0_fire_57 ?_
      refine lv_dcmp hx hb dX0_fire_60 ?_
      refine lv_if_le (tgt := 69) hx hb dX0_fire_61 (by decide) (fun c8 => ?_) (fun c8 => ?_)
      · have h := h.1 c8
        refine gq_aload_n (r := r3) hx hb dX0_fire_69 rfl (lv_at hl 2 rfl) ?_
        obtain ⟨y9, rfl, hy10, h⟩ := h
        obtain ⟨k9, hk9⟩ := xJ_get hy10
        refine va_get (D := (dC, dI)) (ci := 5) (v := .int (sA u7 0 y9)) (C := RX5) (T := TX5) (N := 9) hx hb hts uwX5 hown hK hP k9 hk9 rfl 5 (by decide) (hts _ wd_327) (fun _ h9 => h9) rfl dX0_fire_70 ?_
        refine lv_iconst (v := 3) hx hb dX0_fire_73 (by decide) ?_
        refine lv_icmp_eq (tgt := 85) hx hb dX0_fire_74 (by decide) (fun c11 => ?_) (fun c11 => ?_)
        · have h := h.1 c11
          refine lv_aload_n hx hb dX0_fire_85 rfl (lv_at hl 2 rfl) ?_
          refine lv_iconst (v := 0) hx hb dX0_fire_86 (by decide) ?_
          obtain ⟨k9, hk9⟩ := xJ_get hy10
          have e9 := xJ_state (v := 0) hD hy10 hk9
          refine va_put (D := (dC, dI)) (ci := 5) (v := .int 0) (ty := tyX5 5) (C := RX5) (T := TX5) (N := 9) hx hb hts uwX5 tyX5 tyX5_ok nmX5 hown hK hP hD hS k9 hk9 rfl 5 (by decide) (hts _ wd_327) (fun _ h9 => h9) rfl (tyX5_ok 5 (by decide)) rfl rfl (Nat.le_of_ble_eq_true rfl) dX0_fire_87 (fun H locs hP hD hS => ?_)
          obtain ⟨u12, eu12⟩ : ∃ z : gS, z = tA u7 0 y9 0 := ⟨_, rfl⟩
          have hP : va_P (dC, dI) vwCl (wX ad ca K u12) H := by rw [eu12, ← e9]; exact hP
          have hD : va_D A (wX ad ca K u12) := by rw [eu12, ← e9]; exact hD
          have h := h u12 eu12
          refine lv_aload_n hx hb dX0_fire_90 rfl (lv_at hl 2 rfl) ?_
          obtain ⟨k9, hk9⟩ := xJ_get hy10
          refine va_get (D := (dC, dI)) (ci := 5) (v := .int (sA u12 0 y9)) (C := RX5) (T := TX5) (N := 9) hx hb hts uwX5 hown hK hP k9 hk9 rfl 5 (by decide) (hts _ wd_327) (fun _ h9 => h9) rfl dX0_fire_91 ?_
          refine lv_if_ne (tgt := 103) hx hb dX0_fire_94 (by decide) (fun c13 => ?_) (fun c13 => ?_)
          · have h := h.1 c13
            refine lv_dload hx hb dX0_fire_103 (lv_at hl 0 rfl) ?_
            refine lv_dconst0 hx hb dX0_fire_105 ?_
            refine lv_dcmp hx hb dX0_fire_106 ?_
            refine lv_if_le (tgt := 131) hx hb dX0_fire_107 (by decide) (fun c14 => ?_) (fun c14 => ?_)
            · have h := h.1 c14
              exact gr_v (w := wX ad ca K) (u := u12) hx hb hr hlocks h hP hK hD hS dX0_fire_131
            · have h := h.2 c14
              refine lv_aload_n hx hb dX0_fire_110 rfl (lv_at hl 3 rfl) ?_
              refine va_get (D := (dC, dI)) (ci := 0) (v := .int (sI u12 0)) (C := RX0) (T := TX0) (N := 12) hx hb hts uwX0 hown hK hP 0 rfl rfl 9 (by decide) (hts _ wd_181) (fun _ h9 => h9) rfl dX0_fire_111 ?_
              refine lv_if_ne (tgt := 131) hx hb dX0_fire_114 (by decide) (fun c15 => ?_) (fun c15 => ?_)
              · have h := h.1 c15
                exact gr_v (w := wX ad ca K) (u := u12) hx hb hr hlocks h hP hK hD hS dX0_fire_131
              · have h := h.2 c15
                refine lv_aload_n hx hb dX0_fire_117 rfl (lv_at hl 3 rfl) ?_
                refine va_get (D := (dC, dI)) (ci := 0) (v := .ref (ad 7)) (C := RX0) (T := TX0) (N := 12) hx hb hts uwX0 hown hK hP 0 rfl rfl 7 (by decide) (hts _ wd_179) (fun _ h9 => h9) rfl dX0_fire_118 ?_
                refine lv_aload_n hx hb dX0_fire_121 rfl (lv_at hl 2 rfl) ?_
                refine lv_dload_n hx hb dX0_fire_122 rfl (lv_at hl 1 rfl) ?_
                refine lv_dload hx hb dX0_fire_123 (lv_at hl 0 rfl) ?_
                refine lv_dadd hx hb dX0_fire_125 h.1 ?_
                have h := h.2
                refine lv_dload hx hb dX0_fire_126 (lv_at hl 0 rfl) ?_
                refine gc_v (w := wX ad ca K) (u := u12) (va_runV (As := [.ref y9, .double (FP.dadd x4 x5), .double x5]) (rest := []) ⟨hx, hb, hml, hown, hts⟩ (cX3_put l dC dI ad ca K H.size u12 y9 (FP.dadd x4 x5) x5 _ hy10 h) (cwV 3 hts (gG_V wd_601 wd_602 wd_603 wd_50 wd_604) rfl rfl rfl (by decide +kernel) ⟨Nat.le_of_ble_eq_true rfl, Nat.le_of_ble_eq_true rfl⟩) ⟨gB_blind xE_ok, va_recv hK hP (ci := 3) (q0 := 7) rfl rfl, gB_pre xE_ok hP hK hD hE hS hA⟩ rfl rfl hl.1 rfl (lv_room (Nat.le_of_ble_eq_true rfl)) dX0_fire_128 ⟨Nat.le_of_ble_eq_true rfl, Nat.le_of_ble_eq_true rfl⟩) hD hS hA (fun u17 H locs h hP hD hS => ?_)
                exact gr_v (w := wX ad ca K) (u := u17) hx hb hr hlocks h hP hK hD hS dX0_fire_131
          · have h := h.2 c13
            refine lv_aload_n hx hb dX0_fire_97 rfl (lv_at hl 3 rfl) ?_
            refine lv_aload_n hx hb dX0_fire_98 rfl (lv_at hl 2 rfl) ?_
            refine lv_iconst (v := 0) hx hb dX0_fire_99 (by decide) ?_
            refine gc_v (w := wX ad ca K) (u := u12) (va_runV (As := [.ref y9, .int 0]) (rest := []) ⟨hx, hb, hml, hown, hts⟩ (cX0_admit l dC dI ad ca K 26 H.size u12 y9 0 _ hy10 h) (cwV 2 hts (gG_V wd_389 wd_391 wd_3 wd_46 wd_392) rfl rfl rfl (by decide +kernel) ⟨Nat.le_of_ble_eq_true rfl, Nat.le_of_ble_eq_true rfl⟩) ⟨gB_blind xE_ok, va_recv hK hP (ci := 0) (q0 := 0) rfl rfl, gB_pre xE_ok hP hK hD hE hS hA⟩ rfl rfl hl.1 rfl (lv_room (Nat.le_of_ble_eq_true rfl)) dX0_fire_100 ⟨Nat.le_of_ble_eq_true rfl, Nat.le_of_ble_eq_true rfl⟩) hD hS hA (fun u19 H locs h hP hD hS => ?_)
            refine lv_dload hx hb dX0_fire_103 (lv_at hl 0 rfl) ?_
            refine lv_dconst0 hx hb dX0_fire_105 ?_
            refine lv_dcmp hx hb dX0_fire_106 ?_
            refine lv_if_le (tgt := 131) hx hb dX0_fire_107 (by decide) (fun c20 => ?_) (fun c20 => ?_)
            · have h := h.1 c20
              exact gr_v (w := wX ad ca K) (u := u19) hx hb hr hlocks h hP hK hD hS dX0_fire_131
            · have h := h.2 c20
              refine lv_aload_n hx hb dX0_fire_110 rfl (lv_at hl 3 rfl) ?_
              refine va_get (D := (dC, dI)) (ci := 0) (v := .int (sI u19 0)) (C := RX0) (T := TX0) (N := 12) hx hb hts uwX0 hown hK hP 0 rfl rfl 9 (by decide) (hts _ wd_181) (fun _ h9 => h9) rfl dX0_fire_111 ?_
              refine lv_if_ne (tgt := 131) hx hb dX0_fire_114 (by decide) (fun c21 => ?_) (fun c21 => ?_)
              · have h := h.1 c21
                exact gr_v (w := wX ad ca K) (u := u19) hx hb hr hlocks h hP hK hD hS dX0_fire_131
              · have h := h.2 c21
                refine lv_aload_n hx hb dX0_fire_117 rfl (lv_at hl 3 rfl) ?_
                refine va_get (D := (dC, dI)) (ci := 0) (v := .ref (ad 7)) (C := RX0) (T := TX0) (N := 12) hx hb hts uwX0 hown hK hP 0 rfl rfl 7 (by decide) (hts _ wd_179) (fun _ h9 => h9) rfl dX0_fire_118 ?_
                refine lv_aload_n hx hb dX0_fire_121 rfl (lv_at hl 2 rfl) ?_
                refine lv_dload_n hx hb dX0_fire_122 rfl (lv_at hl 1 rfl) ?_
                refine lv_dload hx hb dX0_fire_123 (lv_at hl 0 rfl) ?_
                refine lv_dadd hx hb dX0_fire_125 h.1 ?_
                have h := h.2
                refine lv_dload hx hb dX0_fire_126 (lv_at hl 0 rfl) ?_
                refine gc_v (w := wX ad ca K) (u := u19) (va_runV (As := [.ref y9, .double (FP.dadd x4 x5), .double x5]) (rest := []) ⟨hx, hb, hml, hown, hts⟩ (cX3_put l dC dI ad ca K H.size u19 y9 (FP.dadd x4 x5) x5 _ hy10 h) (cwV 3 hts (gG_V wd_601 wd_602 wd_603 wd_50 wd_604) rfl rfl rfl (by decide +kernel) ⟨Nat.le_of_ble_eq_true rfl, Nat.le_of_ble_eq_true rfl⟩) ⟨gB_blind xE_ok, va_recv hK hP (ci := 3) (q0 := 7) rfl rfl, gB_pre xE_ok hP hK hD hE hS hA⟩ rfl rfl hl.1 rfl (lv_room (Nat.le_of_ble_eq_true rfl)) dX0_fire_128 ⟨Nat.le_of_ble_eq_true rfl, Nat.le_of_ble_eq_true rfl⟩) hD hS hA (fun u23 H locs h hP hD hS => ?_)
                exact gr_v (w := wX ad ca K) (u := u23) hx hb hr hlocks h hP hK hD hS dX0_fire_131
        · have h := h.2 c11
          refine lv_aload_n hx hb dX0_fire_77 rfl (lv_at hl 2 rfl) ?_
          obtain ⟨k9, hk9⟩ := xJ_get hy10
          refine va_get (D := (dC, dI)) (ci := 5) (v := .int (sA u7 0 y9)) (C := RX5) (T := TX5) (N := 9) hx hb hts uwX5 hown hK hP k9 hk9 rfl 5 (by decide) (hts _ wd_327) (fun _ h9 => h9) rfl dX0_fire_78 ?_
          refine lv_iconst (v := 4) hx hb dX0_fire_81 (by decide) ?_
          refine lv_icmp_ne (tgt := 90) hx hb dX0_fire_82 (by decide) (fun c24 => ?_) (fun c24 => ?_)
          · have h := h.1 c24
            refine lv_aload_n hx hb dX0_fire_90 rfl (lv_at hl 2 rfl) ?_
            obtain ⟨k9, hk9⟩ := xJ_get hy10
            refine va_get (D := (dC, dI)) (ci := 5) (v := .int (sA u7 0 y9)) (C := RX5) (T := TX5) (N := 9) hx hb hts uwX5 hown hK hP k9 hk9 rfl 5 (by decide) (hts _ wd_327) (fun _ h9 => h9) rfl dX0_fire_91 ?_
            refine lv_if_ne (tgt := 103) hx hb dX0_fire_94 (by decide) (fun c25 => ?_) (fun c25 => ?_)
            · have h := h.1 c25
              refine lv_dload hx hb dX0_fire_103 (lv_at hl 0 rfl) ?_
              refine lv_dconst0 hx hb dX0_fire_105 ?_
              refine lv_dcmp hx hb dX0_fire_106 ?_
              refine lv_if_le (tgt := 131) hx hb dX0_fire_107 (by decide) (fun c26 => ?_) (fun c26 => ?_)
              · have h := h.1 c26
                exact gr_v (w := wX ad ca K) (u := u7) hx hb hr hlocks h hP hK hD hS dX0_fire_131
              · have h := h.2 c26
                refine lv_aload_n hx hb dX0_fire_110 rfl (lv_at hl 3 rfl) ?_
                refine va_get (D := (dC, dI)) (ci := 0) (v := .int (sI u7 0)) (C := RX0) (T := TX0) (N := 12) hx hb hts uwX0 hown hK hP 0 rfl rfl 9 (by decide) (hts _ wd_181) (fun _ h9 => h9) rfl dX0_fire_111 ?_
                refine lv_if_ne (tgt := 131) hx hb dX0_fire_114 (by decide) (fun c27 => ?_) (fun c27 => ?_)
                · have h := h.1 c27
                  exact gr_v (w := wX ad ca K) (u := u7) hx hb hr hlocks h hP hK hD hS dX0_fire_131
                · have h := h.2 c27
                  refine lv_aload_n hx hb dX0_fire_117 rfl (lv_at hl 3 rfl) ?_
                  refine va_get (D := (dC, dI)) (ci := 0) (v := .ref (ad 7)) (C := RX0) (T := TX0) (N := 12) hx hb hts uwX0 hown hK hP 0 rfl rfl 7 (by decide) (hts _ wd_179) (fun _ h9 => h9) rfl dX0_fire_118 ?_
                  refine lv_aload_n hx hb dX0_fire_121 rfl (lv_at hl 2 rfl) ?_
                  refine lv_dload_n hx hb dX0_fire_122 rfl (lv_at hl 1 rfl) ?_
                  refine lv_dload hx hb dX0_fire_123 (lv_at hl 0 rfl) ?_
                  refine lv_dadd hx hb dX0_fire_125 h.1 ?_
                  have h := h.2
                  refine lv_dload hx hb dX0_fire_126 (lv_at hl 0 rfl) ?_
                  refine gc_v (w := wX ad ca K) (u := u7) (va_runV (As := [.ref y9, .double (FP.dadd x4 x5), .double x5]) (rest := []) ⟨hx, hb, hml, hown, hts⟩ (cX3_put l dC dI ad ca K H.size u7 y9 (FP.dadd x4 x5) x5 _ hy10 h) (cwV 3 hts (gG_V wd_601 wd_602 wd_603 wd_50 wd_604) rfl rfl rfl (by decide +kernel) ⟨Nat.le_of_ble_eq_true rfl, Nat.le_of_ble_eq_true rfl⟩) ⟨gB_blind xE_ok, va_recv hK hP (ci := 3) (q0 := 7) rfl rfl, gB_pre xE_ok hP hK hD hE hS hA⟩ rfl rfl hl.1 rfl (lv_room (Nat.le_of_ble_eq_true rfl)) dX0_fire_128 ⟨Nat.le_of_ble_eq_true rfl, Nat.le_of_ble_eq_true rfl⟩) hD hS hA (fun u29 H locs h hP hD hS => ?_)
                  exact gr_v (w := wX ad ca K) (u := u29) hx hb hr hlocks h hP hK hD hS dX0_fire_131
            · have h := h.2 c25
              refine lv_aload_n hx hb dX0_fire_97 rfl (lv_at hl 3 rfl) ?_
              refine lv_aload_n hx hb dX0_fire_98 rfl (lv_at hl 2 rfl) ?_
              refine lv_iconst (v := 0) hx hb dX0_fire_99 (by decide) ?_
              refine gc_v (w := wX ad ca K) (u := u7) (va_runV (As := [.ref y9, .int 0]) (rest := []) ⟨hx, hb, hml, hown, hts⟩ (cX0_admit l dC dI ad ca K 26 H.size u7 y9 0 _ hy10 h) (cwV 2 hts (gG_V wd_389 wd_391 wd_3 wd_46 wd_392) rfl rfl rfl (by decide +kernel) ⟨Nat.le_of_ble_eq_true rfl, Nat.le_of_ble_eq_true rfl⟩) ⟨gB_blind xE_ok, va_recv hK hP (ci := 0) (q0 := 0) rfl rfl, gB_pre xE_ok hP hK hD hE hS hA⟩ rfl rfl hl.1 rfl (lv_room (Nat.le_of_ble_eq_true rfl)) dX0_fire_100 ⟨Nat.le_of_ble_eq_true rfl, Nat.le_of_ble_eq_true rfl⟩) hD hS hA (fun u31 H locs h hP hD hS => ?_)
              refine lv_dload hx hb dX0_fire_103 (lv_at hl 0 rfl) ?_
              refine lv_dconst0 hx hb dX0_fire_105 ?_
              refine lv_dcmp hx hb dX0_fire_106 ?_
              refine lv_if_le (tgt := 131) hx hb dX0_fire_107 (by decide) (fun c32 => ?_) (fun c32 => ?_)
              · have h := h.1 c32
                exact gr_v (w := wX ad ca K) (u := u31) hx hb hr hlocks h hP hK hD hS dX0_fire_131
              · have h := h.2 c32
                refine lv_aload_n hx hb dX0_fire_110 rfl (lv_at hl 3 rfl) ?_
                refine va_get (D := (dC, dI)) (ci := 0) (v := .int (sI u31 0)) (C := RX0) (T := TX0) (N := 12) hx hb hts uwX0 hown hK hP 0 rfl rfl 9 (by decide) (hts _ wd_181) (fun _ h9 => h9) rfl dX0_fire_111 ?_
                refine lv_if_ne (tgt := 131) hx hb dX0_fire_114 (by decide) (fun c33 => ?_) (fun c33 => ?_)
                · have h := h.1 c33
                  exact gr_v (w := wX ad ca K) (u := u31) hx hb hr hlocks h hP hK hD hS dX0_fire_131
                · have h := h.2 c33
                  refine lv_aload_n hx hb dX0_fire_117 rfl (lv_at hl 3 rfl) ?_
                  refine va_get (D := (dC, dI)) (ci := 0) (v := .ref (ad 7)) (C := RX0) (T := TX0) (N := 12) hx hb hts uwX0 hown hK hP 0 rfl rfl 7 (by decide) (hts _ wd_179) (fun _ h9 => h9) rfl dX0_fire_118 ?_
                  refine lv_aload_n hx hb dX0_fire_121 rfl (lv_at hl 2 rfl) ?_
                  refine lv_dload_n hx hb dX0_fire_122 rfl (lv_at hl 1 rfl) ?_
                  refine lv_dload hx hb dX0_fire_123 (lv_at hl 0 rfl) ?_
                  refine lv_dadd hx hb dX0_fire_125 h.1 ?_
                  have h := h.2
                  refine lv_dload hx hb dX0_fire_126 (lv_at hl 0 rfl) ?_
                  refine gc_v (w := wX ad ca K) (u := u31) (va_runV (As := [.ref y9, .double (FP.dadd x4 x5), .double x5]) (rest := []) ⟨hx, hb, hml, hown, hts⟩ (cX3_put l dC dI ad ca K H.size u31 y9 (FP.dadd x4 x5) x5 _ hy10 h) (cwV 3 hts (gG_V wd_601 wd_602 wd_603 wd_50 wd_604) rfl rfl rfl (by decide +kernel) ⟨Nat.le_of_ble_eq_true rfl, Nat.le_of_ble_eq_true rfl⟩) ⟨gB_blind xE_ok, va_recv hK hP (ci := 3) (q0 := 7) rfl rfl, gB_pre xE_ok hP hK hD hE hS hA⟩ rfl rfl hl.1 rfl (lv_room (Nat.le_of_ble_eq_true rfl)) dX0_fire_128 ⟨Nat.le_of_ble_eq_true rfl, Nat.le_of_ble_eq_true rfl⟩) hD hS hA (fun u35 H locs h hP hD hS => ?_)
                  exact gr_v (w := wX ad ca K) (u := u35) hx hb hr hlocks h hP hK hD hS dX0_fire_131
          · have h := h.2 c24
            refine lv_aload_n hx hb dX0_fire_85 rfl (lv_at hl 2 rfl) ?_
            refine lv_iconst (v := 0) hx hb dX0_fire_86 (by decide) ?_
            obtain ⟨k9, hk9⟩ := xJ_get hy10
            have e9 := xJ_state (v := 0) hD hy10 hk9
            refine va_put (D := (dC, dI)) (ci := 5) (v := .int 0) (ty := tyX5 5) (C := RX5) (T := TX5) (N := 9) hx hb hts uwX5 tyX5 tyX5_ok nmX5 hown hK hP hD hS k9 hk9 rfl 5 (by decide) (hts _ wd_327) (fun _ h9 => h9) rfl (tyX5_ok 5 (by decide)) rfl rfl (Nat.le_of_ble_eq_true rfl) dX0_fire_87 (fun H locs hP hD hS => ?_)
            obtain ⟨u36, eu36⟩ : ∃ z : gS, z = tA u7 0 y9 0 := ⟨_, rfl⟩
            have hP : va_P (dC, dI) vwCl (wX ad ca K u36) H := by rw [eu36, ← e9]; exact hP
            have hD : va_D A (wX ad ca K u36) := by rw [eu36, ← e9]; exact hD
            have h := h u36 eu36
            refine lv_aload_n hx hb dX0_fire_90 rfl (lv_at hl 2 rfl) ?_
            obtain ⟨k9, hk9⟩ := xJ_get hy10
            refine va_get (D := (dC, dI)) (ci := 5) (v := .int (sA u36 0 y9)) (C := RX5) (T := TX5) (N := 9) hx hb hts uwX5 hown hK hP k9 hk9 rfl 5 (by decide) (hts _ wd_327) (fun _ h9 => h9) rfl dX0_fire_91 ?_
            refine lv_if_ne (tgt := 103) hx hb dX0_fire_94 (by decide) (fun c37 => ?_) (fun c37 => ?_)
            · have h := h.1 c37
              refine lv_dload hx hb dX0_fire_103 (lv_at hl 0 rfl) ?_
              refine lv_dconst0 hx hb dX0_fire_105 ?_
              refine lv_dcmp hx hb dX0_fire_106 ?_
              refine lv_if_le (tgt := 131) hx hb dX0_fire_107 (by decide) (fun c38 => ?_) (fun c38 => ?_)
              · have h := h.1 c38
                exact gr_v (w := wX ad ca K) (u := u36) hx hb hr hlocks h hP hK hD hS dX0_fire_131
              · have h := h.2 c38
                refine lv_aload_n hx hb dX0_fire_110 rfl (lv_at hl 3 rfl) ?_
                refine va_get (D := (dC, dI)) (ci := 0) (v := .int (sI u36 0)) (C := RX0) (T := TX0) (N := 12) hx hb hts uwX0 hown hK hP 0 rfl rfl 9 (by decide) (hts _ wd_181) (fun _ h9 => h9) rfl dX0_fire_111 ?_
                refine lv_if_ne (tgt := 131) hx hb dX0_fire_114 (by decide) (fun c39 => ?_) (fun c39 => ?_)
                · have h := h.1 c39
                  exact gr_v (w := wX ad ca K) (u := u36) hx hb hr hlocks h hP hK hD hS dX0_fire_131
                · have h := h.2 c39
                  refine lv_aload_n hx hb dX0_fire_117 rfl (lv_at hl 3 rfl) ?_
                  refine va_get (D := (dC, dI)) (ci := 0) (v := .ref (ad 7)) (C := RX0) (T := TX0) (N := 12) hx hb hts uwX0 hown hK hP 0 rfl rfl 7 (by decide) (hts _ wd_179) (fun _ h9 => h9) rfl dX0_fire_118 ?_
                  refine lv_aload_n hx hb dX0_fire_121 rfl (lv_at hl 2 rfl) ?_
                  refine lv_dload_n hx hb dX0_fire_122 rfl (lv_at hl 1 rfl) ?_
                  refine lv_dload hx hb dX0_fire_123 (lv_at hl 0 rfl) ?_
                  refine lv_dadd hx hb dX0_fire_125 h.1 ?_
                  have h := h.2
                  refine lv_dload hx hb dX0_fire_126 (lv_at hl 0 rfl) ?_
                  refine gc_v (w := wX ad ca K) (u := u36) (va_runV (As := [.ref y9, .double (FP.dadd x4 x5), .double x5]) (rest := []) ⟨hx, hb, hml, hown, hts⟩ (cX3_put l dC dI ad ca K H.size u36 y9 (FP.dadd x4 x5) x5 _ hy10 h) (cwV 3 hts (gG_V wd_601 wd_602 wd_603 wd_50 wd_604) rfl rfl rfl (by decide +kernel) ⟨Nat.le_of_ble_eq_true rfl, Nat.le_of_ble_eq_true rfl⟩) ⟨gB_blind xE_ok, va_recv hK hP (ci := 3) (q0 := 7) rfl rfl, gB_pre xE_ok hP hK hD hE hS hA⟩ rfl rfl hl.1 rfl (lv_room (Nat.le_of_ble_eq_true rfl)) dX0_fire_128 ⟨Nat.le_of_ble_eq_true rfl, Nat.le_of_ble_eq_true rfl⟩) hD hS hA (fun u41 H locs h hP hD hS => ?_)
                  exact gr_v (w := wX ad ca K) (u := u41) hx hb hr hlocks h hP hK hD hS dX0_fire_131
            · have h := h.2 c37
              refine lv_aload_n hx hb dX0_fire_97 rfl (lv_at hl 3 rfl) ?_
              refine lv_aload_n hx hb dX0_fire_98 rfl (lv_at hl 2 rfl) ?_
              refine lv_iconst (v := 0) hx hb dX0_fire_99 (by decide) ?_
              refine gc_v (w := wX ad ca K) (u := u36) (va_runV (As := [.ref y9, .int 0]) (rest := []) ⟨hx, hb, hml, hown, hts⟩ (cX0_admit l dC dI ad ca K 26 H.size u36 y9 0 _ hy10 h) (cwV 2 hts (gG_V wd_389 wd_391 wd_3 wd_46 wd_392) rfl rfl rfl (by decide +kernel) ⟨Nat.le_of_ble_eq_true rfl, Nat.le_of_ble_eq_true rfl⟩) ⟨gB_blind xE_ok, va_recv hK hP (ci := 0) (q0 := 0) rfl rfl, gB_pre xE_ok hP hK hD hE hS hA⟩ rfl rfl hl.1 rfl (lv_room (Nat.le_of_ble_eq_true rfl)) dX0_fire_100 ⟨Nat.le_of_ble_eq_true rfl, Nat.le_of_ble_eq_true rfl⟩) hD hS hA (fun u43 H locs h hP hD hS => ?_)
              refine lv_dload hx hb dX0_fire_103 (lv_at hl 0 rfl) ?_
              refine lv_dconst0 hx hb dX0_fire_105 ?_
              refine lv_dcmp hx hb dX0_fire_106 ?_
              refine lv_if_le (tgt := 131) hx hb dX0_fire_107 (by decide) (fun c44 => ?_) (fun c44 => ?_)
              · have h := h.1 c44
                exact gr_v (w := wX ad ca K) (u := u43) hx hb hr hlocks h hP hK hD hS dX0_fire_131
              · have h := h.2 c44
                refine lv_aload_n hx hb dX0_fire_110 rfl (lv_at hl 3 rfl) ?_
                refine va_get (D := (dC, dI)) (ci := 0) (v := .int (sI u43 0)) (C := RX0) (T := TX0) (N := 12) hx hb hts uwX0 hown hK hP 0 rfl rfl 9 (by decide) (hts _ wd_181) (fun _ h9 => h9) rfl dX0_fire_111 ?_
                refine lv_if_ne (tgt := 131) hx hb dX0_fire_114 (by decide) (fun c45 => ?_) (fun c45 => ?_)
                · have h := h.1 c45
                  exact gr_v (w := wX ad ca K) (u := u43) hx hb hr hlocks h hP hK hD hS dX0_fire_131
                · have h := h.2 c45
                  refine lv_aload_n hx hb dX0_fire_117 rfl (lv_at hl 3 rfl) ?_
                  refine va_get (D := (dC, dI)) (ci := 0) (v := .ref (ad 7)) (C := RX0) (T := TX0) (N := 12) hx hb hts uwX0 hown hK hP 0 rfl rfl 7 (by decide) (hts _ wd_179) (fun _ h9 => h9) rfl dX0_fire_118 ?_
                  refine lv_aload_n hx hb dX0_fire_121 rfl (lv_at hl 2 rfl) ?_
                  refine lv_dload_n hx hb dX0_fire_122 rfl (lv_at hl 1 rfl) ?_
                  refine lv_dload hx hb dX0_fire_123 (lv_at hl 0 rfl) ?_
                  refine lv_dadd hx hb dX0_fire_125 h.1 ?_
                  have h := h.2
                  refine lv_dload hx hb dX0_fire_126 (lv_at hl 0 rfl) ?_
                  refine gc_v (w := wX ad ca K) (u := u43) (va_runV (As := [.ref y9, .double (FP.dadd x4 x5), .double x5]) (rest := []) ⟨hx, hb, hml, hown, hts⟩ (cX3_put l dC dI ad ca K H.size u43 y9 (FP.dadd x4 x5) x5 _ hy10 h) (cwV 3 hts (gG_V wd_601 wd_602 wd_603 wd_50 wd_604) rfl rfl rfl (by decide +kernel) ⟨Nat.le_of_ble_eq_true rfl, Nat.le_of_ble_eq_true rfl⟩) ⟨gB_blind xE_ok, va_recv hK hP (ci := 3) (q0 := 7) rfl rfl, gB_pre xE_ok hP hK hD hE hS hA⟩ rfl rfl hl.1 rfl (lv_room (Nat.le_of_ble_eq_true rfl)) dX0_fire_128 ⟨Nat.le_of_ble_eq_true rfl, Nat.le_of_ble_eq_true rfl⟩) hD hS hA (fun u47 H locs h hP hD hS => ?_)
                  exact gr_v (w := wX ad ca K) (u := u47) hx hb hr hlocks h hP hK hD hS dX0_fire_131
      · have h := h.2 c8
        refine lv_aload_n hx hb dX0_fire_64 rfl (lv_at hl 3 rfl) ?_
        refine lv_dload_n hx hb dX0_fire_65 rfl (lv_at hl 1 rfl) ?_
        refine va_put (D := (dC, dI)) (ci := 0) (v := .double x4) (ty := tyX0 11) (C := RX0) (T := TX0) (N := 12) hx hb hts uwX0 tyX0 tyX0_ok nmX0 hown hK hP hD hS 0 rfl rfl 11 (by decide) (hts _ wd_183) (fun _ h9 => h9) rfl (tyX0_ok 11 (by decide)) rfl rfl (Nat.le_of_ble_eq_true rfl) dX0_fire_66 (fun H locs hP hD hS => ?_)
        obtain ⟨u48, eu48⟩ : ∃ z : gS, z = tD u7 0 x4 := ⟨_, rfl⟩
        have hP : va_P (dC, dI) vwCl (wX ad ca K u48) H := by rw [eu48, wX_f0_time]; exact hP
        have hD : va_D A (wX ad ca K u48) := by rw [eu48, wX_f0_time]; exact hD
        have h := h u48 eu48
        refine gq_aload_n (r := r3) hx hb dX0_fire_69 rfl (lv_at hl 2 rfl) ?_
        obtain ⟨y49, rfl, hy50, h⟩ := h
        obtain ⟨k9, hk9⟩ := xJ_get hy50
        refine va_get (D := (dC, dI)) (ci := 5) (v := .int (sA u48 0 y49)) (C := RX5) (T := TX5) (N := 9) hx hb hts uwX5 hown hK hP k9 hk9 rfl 5 (by decide) (hts _ wd_327) (fun _ h9 => h9) rfl dX0_fire_70 ?_
        refine lv_iconst (v := 3) hx hb dX0_fire_73 (by decide) ?_
        refine lv_icmp_eq (tgt := 85) hx hb dX0_fire_74 (by decide) (fun c51 => ?_) (fun c51 => ?_)
        · have h := h.1 c51
          refine lv_aload_n hx hb dX0_fire_85 rfl (lv_at hl 2 rfl) ?_
          refine lv_iconst (v := 0) hx hb dX0_fire_86 (by decide) ?_
          obtain ⟨k9, hk9⟩ := xJ_get hy50
          have e9 := xJ_state (v := 0) hD hy50 hk9
          refine va_put (D := (dC, dI)) (ci := 5) (v := .int 0) (ty := tyX5 5) (C := RX5) (T := TX5) (N := 9) hx hb hts uwX5 tyX5 tyX5_ok nmX5 hown hK hP hD hS k9 hk9 rfl 5 (by decide) (hts _ wd_327) (fun _ h9 => h9) rfl (tyX5_ok 5 (by decide)) rfl rfl (Nat.le_of_ble_eq_true rfl) dX0_fire_87 (fun H locs hP hD hS => ?_)
          obtain ⟨u52, eu52⟩ : ∃ z : gS, z = tA u48 0 y49 0 := ⟨_, rfl⟩
          have hP : va_P (dC, dI) vwCl (wX ad ca K u52) H := by rw [eu52, ← e9]; exact hP
          have hD : va_D A (wX ad ca K u52) := by rw [eu52, ← e9]; exact hD
          have h := h u52 eu52
          refine lv_aload_n hx hb dX0_fire_90 rfl (lv_at hl 2 rfl) ?_
          obtain ⟨k9, hk9⟩ := xJ_get hy50
          refine va_get (D := (dC, dI)) (ci := 5) (v := .int (sA u52 0 y49)) (C := RX5) (T := TX5) (N := 9) hx hb hts uwX5 hown hK hP k9 hk9 rfl 5 (by decide) (hts _ wd_327) (fun _ h9 => h9) rfl dX0_fire_91 ?_
          refine lv_if_ne (tgt := 103) hx hb dX0_fire_94 (by decide) (fun c53 => ?_) (fun c53 => ?_)
          · have h := h.1 c53
            refine lv_dload hx hb dX0_fire_103 (lv_at hl 0 rfl) ?_
            refine lv_dconst0 hx hb dX0_fire_105 ?_
            refine lv_dcmp hx hb dX0_fire_106 ?_
            refine lv_if_le (tgt := 131) hx hb dX0_fire_107 (by decide) (fun c54 => ?_) (fun c54 => ?_)
            · have h := h.1 c54
              exact gr_v (w := wX ad ca K) (u := u52) hx hb hr hlocks h hP hK hD hS dX0_fire_131
            · have h := h.2 c54
              refine lv_aload_n hx hb dX0_fire_110 rfl (lv_at hl 3 rfl) ?_
              refine va_get (D := (dC, dI)) (ci := 0) (v := .int (sI u52 0)) (C := RX0) (T := TX0) (N := 12) hx hb hts uwX0 hown hK hP 0 rfl rfl 9 (by decide) (hts _ wd_181) (fun _ h9 => h9) rfl dX0_fire_111 ?_
              refine lv_if_ne (tgt := 131) hx hb dX0_fire_114 (by decide) (fun c55 => ?_) (fun c55 => ?_)
              · have h := h.1 c55
                exact gr_v (w := wX ad ca K) (u := u52) hx hb hr hlocks h hP hK hD hS dX0_fire_131
              · have h := h.2 c55
                refine lv_aload_n hx hb dX0_fire_117 rfl (lv_at hl 3 rfl) ?_
                refine va_get (D := (dC, dI)) (ci := 0) (v := .ref (ad 7)) (C := RX0) (T := TX0) (N := 12) hx hb hts uwX0 hown hK hP 0 rfl rfl 7 (by decide) (hts _ wd_179) (fun _ h9 => h9) rfl dX0_fire_118 ?_
                refine lv_aload_n hx hb dX0_fire_121 rfl (lv_at hl 2 rfl) ?_
                refine lv_dload_n hx hb dX0_fire_122 rfl (lv_at hl 1 rfl) ?_
                refine lv_dload hx hb dX0_fire_123 (lv_at hl 0 rfl) ?_
                refine lv_dadd hx hb dX0_fire_125 h.1 ?_
                have h := h.2
                refine lv_dload hx hb dX0_fire_126 (lv_at hl 0 rfl) ?_
                refine gc_v (w := wX ad ca K) (u := u52) (va_runV (As := [.ref y49, .double (FP.dadd x4 x5), .double x5]) (rest := []) ⟨hx, hb, hml, hown, hts⟩ (cX3_put l dC dI ad ca K H.size u52 y49 (FP.dadd x4 x5) x5 _ hy50 h) (cwV 3 hts (gG_V wd_601 wd_602 wd_603 wd_50 wd_604) rfl rfl rfl (by decide +kernel) ⟨Nat.le_of_ble_eq_true rfl, Nat.le_of_ble_eq_true rfl⟩) ⟨gB_blind xE_ok, va_recv hK hP (ci := 3) (q0 := 7) rfl rfl, gB_pre xE_ok hP hK hD hE hS hA⟩ rfl rfl hl.1 rfl (lv_room (Nat.le_of_ble_eq_true rfl)) dX0_fire_128 ⟨Nat.le_of_ble_eq_true rfl, Nat.le_of_ble_eq_true rfl⟩) hD hS hA (fun u57 H locs h hP hD hS => ?_)
                exact gr_v (w := wX ad ca K) (u := u57) hx hb hr hlocks h hP hK hD hS dX0_fire_131
          · have h := h.2 c53
            refine lv_aload_n hx hb dX0_fire_97 rfl (lv_at hl 3 rfl) ?_
            refine lv_aload_n hx hb dX0_fire_98 rfl (lv_at hl 2 rfl) ?_
            refine lv_iconst (v := 0) hx hb dX0_fire_99 (by decide) ?_
            refine gc_v (w := wX ad ca K) (u := u52) (va_runV (As := [.ref y49, .int 0]) (rest := []) ⟨hx, hb, hml, hown, hts⟩ (cX0_admit l dC dI ad ca K 26 H.size u52 y49 0 _ hy50 h) (cwV 2 hts (gG_V wd_389 wd_391 wd_3 wd_46 wd_392) rfl rfl rfl (by decide +kernel) ⟨Nat.le_of_ble_eq_true rfl, Nat.le_of_ble_eq_true rfl⟩) ⟨gB_blind xE_ok, va_recv hK hP (ci := 0) (q0 := 0) rfl rfl, gB_pre xE_ok hP hK hD hE hS hA⟩ rfl rfl hl.1 rfl (lv_room (Nat.le_of_ble_eq_true rfl)) dX0_fire_100 ⟨Nat.le_of_ble_eq_true rfl, Nat.le_of_ble_eq_true rfl⟩) hD hS hA (fun u59 H locs h hP hD hS => ?_)
            refine lv_dload hx hb dX0_fire_103 (lv_at hl 0 rfl) ?_
            refine lv_dconst0 hx hb dX0_fire_105 ?_
            refine lv_dcmp hx hb dX0_fire_106 ?_
            refine lv_if_le (tgt := 131) hx hb dX0_fire_107 (by decide) (fun c60 => ?_) (fun c60 => ?_)
            · have h := h.1 c60
              exact gr_v (w := wX ad ca K) (u := u59) hx hb hr hlocks h hP hK hD hS dX0_fire_131
            · have h := h.2 c60
              refine lv_aload_n hx hb dX0_fire_110 rfl (lv_at hl 3 rfl) ?_
              refine va_get (D := (dC, dI)) (ci := 0) (v := .int (sI u59 0)) (C := RX0) (T := TX0) (N := 12) hx hb hts uwX0 hown hK hP 0 rfl rfl 9 (by decide) (hts _ wd_181) (fun _ h9 => h9) rfl dX0_fire_111 ?_
              refine lv_if_ne (tgt := 131) hx hb dX0_fire_114 (by decide) (fun c61 => ?_) (fun c61 => ?_)
              · have h := h.1 c61
                exact gr_v (w := wX ad ca K) (u := u59) hx hb hr hlocks h hP hK hD hS dX0_fire_131
              · have h := h.2 c61
                refine lv_aload_n hx hb dX0_fire_117 rfl (lv_at hl 3 rfl) ?_
                refine va_get (D := (dC, dI)) (ci := 0) (v := .ref (ad 7)) (C := RX0) (T := TX0) (N := 12) hx hb hts uwX0 hown hK hP 0 rfl rfl 7 (by decide) (hts _ wd_179) (fun _ h9 => h9) rfl dX0_fire_118 ?_
                refine lv_aload_n hx hb dX0_fire_121 rfl (lv_at hl 2 rfl) ?_
                refine lv_dload_n hx hb dX0_fire_122 rfl (lv_at hl 1 rfl) ?_
                refine lv_dload hx hb dX0_fire_123 (lv_at hl 0 rfl) ?_
                refine lv_dadd hx hb dX0_fire_125 h.1 ?_
                have h := h.2
                refine lv_dload hx hb dX0_fire_126 (lv_at hl 0 rfl) ?_
                refine gc_v (w := wX ad ca K) (u := u59) (va_runV (As := [.ref y49, .double (FP.dadd x4 x5), .double x5]) (rest := []) ⟨hx, hb, hml, hown, hts⟩ (cX3_put l dC dI ad ca K H.size u59 y49 (FP.dadd x4 x5) x5 _ hy50 h) (cwV 3 hts (gG_V wd_601 wd_602 wd_603 wd_50 wd_604) rfl rfl rfl (by decide +kernel) ⟨Nat.le_of_ble_eq_true rfl, Nat.le_of_ble_eq_true rfl⟩) ⟨gB_blind xE_ok, va_recv hK hP (ci := 3) (q0 := 7) rfl rfl, gB_pre xE_ok hP hK hD hE hS hA⟩ rfl rfl hl.1 rfl (lv_room (Nat.le_of_ble_eq_true rfl)) dX0_fire_128 ⟨Nat.le_of_ble_eq_true rfl, Nat.le_of_ble_eq_true rfl⟩) hD hS hA (fun u63 H locs h hP hD hS => ?_)
                exact gr_v (w := wX ad ca K) (u := u63) hx hb hr hlocks h hP hK hD hS dX0_fire_131
        · have h := h.2 c51
          refine lv_aload_n hx hb dX0_fire_77 rfl (lv_at hl 2 rfl) ?_
          obtain ⟨k9, hk9⟩ := xJ_get hy50
          refine va_get (D := (dC, dI)) (ci := 5) (v := .int (sA u48 0 y49)) (C := RX5) (T := TX5) (N := 9) hx hb hts uwX5 hown hK hP k9 hk9 rfl 5 (by decide) (hts _ wd_327) (fun _ h9 => h9) rfl dX0_fire_78 ?_
          refine lv_iconst (v := 4) hx hb dX0_fire_81 (by decide) ?_
          refine lv_icmp_ne (tgt := 90) hx hb dX0_fire_82 (by decide) (fun c64 => ?_) (fun c64 => ?_)
          · have h := h.1 c64
            refine lv_aload_n hx hb dX0_fire_90 rfl (lv_at hl 2 rfl) ?_
            obtain ⟨k9, hk9⟩ := xJ_get hy50
            refine va_get (D := (dC, dI)) (ci := 5) (v := .int (sA u48 0 y49)) (C := RX5) (T := TX5) (N := 9) hx hb hts uwX5 hown hK hP k9 hk9 rfl 5 (by decide) (hts _ wd_327) (fun _ h9 => h9) rfl dX0_fire_91 ?_
            refine lv_if_ne (tgt := 103) hx hb dX0_fire_94 (by decide) (fun c65 => ?_) (fun c65 => ?_)
            · have h := h.1 c65
              refine lv_dload hx hb dX0_fire_103 (lv_at hl 0 rfl) ?_
              refine lv_dconst0 hx hb dX0_fire_105 ?_
              refine lv_dcmp hx hb dX0_fire_106 ?_
              refine lv_if_le (tgt := 131) hx hb dX0_fire_107 (by decide) (fun c66 => ?_) (fun c66 => ?_)
              · have h := h.1 c66
                exact gr_v (w := wX ad ca K) (u := u48) hx hb hr hlocks h hP hK hD hS dX0_fire_131
              · have h := h.2 c66
                refine lv_aload_n hx hb dX0_fire_110 rfl (lv_at hl 3 rfl) ?_
                refine va_get (D := (dC, dI)) (ci := 0) (v := .int (sI u48 0)) (C := RX0) (T := TX0) (N := 12) hx hb hts uwX0 hown hK hP 0 rfl rfl 9 (by decide) (hts _ wd_181) (fun _ h9 => h9) rfl dX0_fire_111 ?_
                refine lv_if_ne (tgt := 131) hx hb dX0_fire_114 (by decide) (fun c67 => ?_) (fun c67 => ?_)
                · have h := h.1 c67
                  exact gr_v (w := wX ad ca K) (u := u48) hx hb hr hlocks h hP hK hD hS dX0_fire_131
                · have h := h.2 c67
                  refine lv_aload_n hx hb dX0_fire_117 rfl (lv_at hl 3 rfl) ?_
                  refine va_get (D := (dC, dI)) (ci := 0) (v := .ref (ad 7)) (C := RX0) (T := TX0) (N := 12) hx hb hts uwX0 hown hK hP 0 rfl rfl 7 (by decide) (hts _ wd_179) (fun _ h9 => h9) rfl dX0_fire_118 ?_
                  refine lv_aload_n hx hb dX0_fire_121 rfl (lv_at hl 2 rfl) ?_
                  refine lv_dload_n hx hb dX0_fire_122 rfl (lv_at hl 1 rfl) ?_
                  refine lv_dload hx hb dX0_fire_123 (lv_at hl 0 rfl) ?_
                  refine lv_dadd hx hb dX0_fire_125 h.1 ?_
                  have h := h.2
                  refine lv_dload hx hb dX0_fire_126 (lv_at hl 0 rfl) ?_
                  refine gc_v (w := wX ad ca K) (u := u48) (va_runV (As := [.ref y49, .double (FP.dadd x4 x5), .double x5]) (rest := []) ⟨hx, hb, hml, hown, hts⟩ (cX3_put l dC dI ad ca K H.size u48 y49 (FP.dadd x4 x5) x5 _ hy50 h) (cwV 3 hts (gG_V wd_601 wd_602 wd_603 wd_50 wd_604) rfl rfl rfl (by decide +kernel) ⟨Nat.le_of_ble_eq_true rfl, Nat.le_of_ble_eq_true rfl⟩) ⟨gB_blind xE_ok, va_recv hK hP (ci := 3) (q0 := 7) rfl rfl, gB_pre xE_ok hP hK hD hE hS hA⟩ rfl rfl hl.1 rfl (lv_room (Nat.le_of_ble_eq_true rfl)) dX0_fire_128 ⟨Nat.le_of_ble_eq_true rfl, Nat.le_of_ble_eq_true rfl⟩) hD hS hA (fun u69 H locs h hP hD hS => ?_)
                  exact gr_v (w := wX ad ca K) (u := u69) hx hb hr hlocks h hP hK hD hS dX0_fire_131
            · have h := h.2 c65
              refine lv_aload_n hx hb dX0_fire_97 rfl (lv_at hl 3 rfl) ?_
              refine lv_aload_n hx hb dX0_fire_98 rfl (lv_at hl 2 rfl) ?_
              refine lv_iconst (v := 0) hx hb dX0_fire_99 (by decide) ?_
              refine gc_v (w := wX ad ca K) (u := u48) (va_runV (As := [.ref y49, .int 0]) (rest := []) ⟨hx, hb, hml, hown, hts⟩ (cX0_admit l dC dI ad ca K 26 H.size u48 y49 0 _ hy50 h) (cwV 2 hts (gG_V wd_389 wd_391 wd_3 wd_46 wd_392) rfl rfl rfl (by decide +kernel) ⟨Nat.le_of_ble_eq_true rfl, Nat.le_of_ble_eq_true rfl⟩) ⟨gB_blind xE_ok, va_recv hK hP (ci := 0) (q0 := 0) rfl rfl, gB_pre xE_ok hP hK hD hE hS hA⟩ rfl rfl hl.1 rfl (lv_room (Nat.le_of_ble_eq_true rfl)) dX0_fire_100 ⟨Nat.le_of_ble_eq_true rfl, Nat.le_of_ble_eq_true rfl⟩) hD hS hA (fun u71 H locs h hP hD hS => ?_)
              refine lv_dload hx hb dX0_fire_103 (lv_at hl 0 rfl) ?_
              refine lv_dconst0 hx hb dX0_fire_105 ?_
              refine lv_dcmp hx hb dX0_fire_106 ?_
              refine lv_if_le (tgt := 131) hx hb dX0_fire_107 (by decide) (fun c72 => ?_) (fun c72 => ?_)
              · have h := h.1 c72
                exact gr_v (w := wX ad ca K) (u := u71) hx hb hr hlocks h hP hK hD hS dX0_fire_131
              · have h := h.2 c72
                refine lv_aload_n hx hb dX0_fire_110 rfl (lv_at hl 3 rfl) ?_
                refine va_get (D := (dC, dI)) (ci := 0) (v := .int (sI u71 0)) (C := RX0) (T := TX0) (N := 12) hx hb hts uwX0 hown hK hP 0 rfl rfl 9 (by decide) (hts _ wd_181) (fun _ h9 => h9) rfl dX0_fire_111 ?_
                refine lv_if_ne (tgt := 131) hx hb dX0_fire_114 (by decide) (fun c73 => ?_) (fun c73 => ?_)
                · have h := h.1 c73
                  exact gr_v (w := wX ad ca K) (u := u71) hx hb hr hlocks h hP hK hD hS dX0_fire_131
                · have h := h.2 c73
                  refine lv_aload_n hx hb dX0_fire_117 rfl (lv_at hl 3 rfl) ?_
                  refine va_get (D := (dC, dI)) (ci := 0) (v := .ref (ad 7)) (C := RX0) (T := TX0) (N := 12) hx hb hts uwX0 hown hK hP 0 rfl rfl 7 (by decide) (hts _ wd_179) (fun _ h9 => h9) rfl dX0_fire_118 ?_
                  refine lv_aload_n hx hb dX0_fire_121 rfl (lv_at hl 2 rfl) ?_
                  refine lv_dload_n hx hb dX0_fire_122 rfl (lv_at hl 1 rfl) ?_
                  refine lv_dload hx hb dX0_fire_123 (lv_at hl 0 rfl) ?_
                  refine lv_dadd hx hb dX0_fire_125 h.1 ?_
                  have h := h.2
                  refine lv_dload hx hb dX0_fire_126 (lv_at hl 0 rfl) ?_
                  refine gc_v (w := wX ad ca K) (u := u71) (va_runV (As := [.ref y49, .double (FP.dadd x4 x5), .double x5]) (rest := []) ⟨hx, hb, hml, hown, hts⟩ (cX3_put l dC dI ad ca K H.size u71 y49 (FP.dadd x4 x5) x5 _ hy50 h) (cwV 3 hts (gG_V wd_601 wd_602 wd_603 wd_50 wd_604) rfl rfl rfl (by decide +kernel) ⟨Nat.le_of_ble_eq_true rfl, Nat.le_of_ble_eq_true rfl⟩) ⟨gB_blind xE_ok, va_recv hK hP (ci := 3) (q0 := 7) rfl rfl, gB_pre xE_ok hP hK hD hE hS hA⟩ rfl rfl hl.1 rfl (lv_room (Nat.le_of_ble_eq_true rfl)) dX0_fire_128 ⟨Nat.le_of_ble_eq_true rfl, Nat.le_of_ble_eq_true rfl⟩) hD hS hA (fun u75 H locs h hP hD hS => ?_)
                  exact gr_v (w := wX ad ca K) (u := u75) hx hb hr hlocks h hP hK hD hS dX0_fire_131
          · have h := h.2 c64
            refine lv_aload_n hx hb dX0_fire_85 rfl (lv_at hl 2 rfl) ?_
            refine lv_iconst (v := 0) hx hb dX0_fire_86 (by decide) ?_
            obtain ⟨k9, hk9⟩ := xJ_get hy50
            have e9 := xJ_state (v := 0) hD hy50 hk9
            refine va_put (D := (dC, dI)) (ci := 5) (v := .int 0) (ty := tyX5 5) (C := RX5) (T := TX5) (N := 9) hx hb hts uwX5 tyX5 tyX5_ok nmX5 hown hK hP hD hS k9 hk9 rfl 5 (by decide) (hts _ wd_327) (fun _ h9 => h9) rfl (tyX5_ok 5 (by decide)) rfl rfl (Nat.le_of_ble_eq_true rfl) dX0_fire_87 (fun H locs hP hD hS => ?_)
            obtain ⟨u76, eu76⟩ : ∃ z : gS, z = tA u48 0 y49 0 := ⟨_, rfl⟩
            have hP : va_P (dC, dI) vwCl (wX ad ca K u76) H := by rw [eu76, ← e9]; exact hP
            have hD : va_D A (wX ad ca K u76) := by rw [eu76, ← e9]; exact hD
            have h := h u76 eu76
            refine lv_aload_n hx hb dX0_fire_90 rfl (lv_at hl 2 rfl) ?_
            obtain ⟨k9, hk9⟩ := xJ_get hy50
            refine va_get (D := (dC, dI)) (ci := 5) (v := .int (sA u76 0 y49)) (C := RX5) (T := TX5) (N := 9) hx hb hts uwX5 hown hK hP k9 hk9 rfl 5 (by decide) (hts _ wd_327) (fun _ h9 => h9) rfl dX0_fire_91 ?_
            refine lv_if_ne (tgt := 103) hx hb dX0_fire_94 (by decide) (fun c77 => ?_) (fun c77 => ?_)
            · have h := h.1 c77
              refine lv_dload hx hb dX0_fire_103 (lv_at hl 0 rfl) ?_
              refine lv_dconst0 hx hb dX0_fire_105 ?_
              refine lv_dcmp hx hb dX0_fire_106 ?_
              refine lv_if_le (tgt := 131) hx hb dX0_fire_107 (by decide) (fun c78 => ?_) (fun c78 => ?_)
              · have h := h.1 c78
                exact gr_v (w := wX ad ca K) (u := u76) hx hb hr hlocks h hP hK hD hS dX0_fire_131
              · have h := h.2 c78
                refine lv_aload_n hx hb dX0_fire_110 rfl (lv_at hl 3 rfl) ?_
                refine va_get (D := (dC, dI)) (ci := 0) (v := .int (sI u76 0)) (C := RX0) (T := TX0) (N := 12) hx hb hts uwX0 hown hK hP 0 rfl rfl 9 (by decide) (hts _ wd_181) (fun _ h9 => h9) rfl dX0_fire_111 ?_
                refine lv_if_ne (tgt := 131) hx hb dX0_fire_114 (by decide) (fun c79 => ?_) (fun c79 => ?_)
                · have h := h.1 c79
                  exact gr_v (w := wX ad ca K) (u := u76) hx hb hr hlocks h hP hK hD hS dX0_fire_131
                · have h := h.2 c79
                  refine lv_aload_n hx hb dX0_fire_117 rfl (lv_at hl 3 rfl) ?_
                  refine va_get (D := (dC, dI)) (ci := 0) (v := .ref (ad 7)) (C := RX0) (T := TX0) (N := 12) hx hb hts uwX0 hown hK hP 0 rfl rfl 7 (by decide) (hts _ wd_179) (fun _ h9 => h9) rfl dX0_fire_118 ?_
                  refine lv_aload_n hx hb dX0_fire_121 rfl (lv_at hl 2 rfl) ?_
                  refine lv_dload_n hx hb dX0_fire_122 rfl (lv_at hl 1 rfl) ?_
                  refine lv_dload hx hb dX0_fire_123 (lv_at hl 0 rfl) ?_
                  refine lv_dadd hx hb dX0_fire_125 h.1 ?_
                  have h := h.2
                  refine lv_dload hx hb dX0_fire_126 (lv_at hl 0 rfl) ?_
                  refine gc_v (w := wX ad ca K) (u := u76) (va_runV (As := [.ref y49, .double (FP.dadd x4 x5), .double x5]) (rest := []) ⟨hx, hb, hml, hown, hts⟩ (cX3_put l dC dI ad ca K H.size u76 y49 (FP.dadd x4 x5) x5 _ hy50 h) (cwV 3 hts (gG_V wd_601 wd_602 wd_603 wd_50 wd_604) rfl rfl rfl (by decide +kernel) ⟨Nat.le_of_ble_eq_true rfl, Nat.le_of_ble_eq_true rfl⟩) ⟨gB_blind xE_ok, va_recv hK hP (ci := 3) (q0 := 7) rfl rfl, gB_pre xE_ok hP hK hD hE hS hA⟩ rfl rfl hl.1 rfl (lv_room (Nat.le_of_ble_eq_true rfl)) dX0_fire_128 ⟨Nat.le_of_ble_eq_true rfl, Nat.le_of_ble_eq_true rfl⟩) hD hS hA (fun u81 H locs h hP hD hS => ?_)
                  exact gr_v (w := wX ad ca K) (u := u81) hx hb hr hlocks h hP hK hD hS dX0_fire_131
            · have h := h.2 c77
              refine lv_aload_n hx hb dX0_fire_97 rfl (lv_at hl 3 rfl) ?_
              refine lv_aload_n hx hb dX0_fire_98 rfl (lv_at hl 2 rfl) ?_
              refine lv_iconst (v := 0) hx hb dX0_fire_99 (by decide) ?_
              refine gc_v (w := wX ad ca K) (u := u76) (va_runV (As := [.ref y49, .int 0]) (rest := []) ⟨hx, hb, hml, hown, hts⟩ (cX0_admit l dC dI ad ca K 26 H.size u76 y49 0 _ hy50 h) (cwV 2 hts (gG_V wd_389 wd_391 wd_3 wd_46 wd_392) rfl rfl rfl (by decide +kernel) ⟨Nat.le_of_ble_eq_true rfl, Nat.le_of_ble_eq_true rfl⟩) ⟨gB_blind xE_ok, va_recv hK hP (ci := 0) (q0 := 0) rfl rfl, gB_pre xE_ok hP hK hD hE hS hA⟩ rfl rfl hl.1 rfl (lv_room (Nat.le_of_ble_eq_true rfl)) dX0_fire_100 ⟨Nat.le_of_ble_eq_true rfl, Nat.le_of_ble_eq_true rfl⟩) hD hS hA (fun u83 H locs h hP hD hS => ?_)
              refine lv_dload hx hb dX0_fire_103 (lv_at hl 0 rfl) ?_
              refine lv_dconst0 hx hb dX0_fire_105 ?_
              refine lv_dcmp hx hb dX0_fire_106 ?_
              refine lv_if_le (tgt := 131) hx hb dX0_fire_107 (by decide) (fun c84 => ?_) (fun c84 => ?_)
              · have h := h.1 c84
                exact gr_v (w := wX ad ca K) (u := u83) hx hb hr hlocks h hP hK hD hS dX0_fire_131
              · have h := h.2 c84
                refine lv_aload_n hx hb dX0_fire_110 rfl (lv_at hl 3 rfl) ?_
                refine va_get (D := (dC, dI)) (ci := 0) (v := .int (sI u83 0)) (C := RX0) (T := TX0) (N := 12) hx hb hts uwX0 hown hK hP 0 rfl rfl 9 (by decide) (hts _ wd_181) (fun _ h9 => h9) rfl dX0_fire_111 ?_
                refine lv_if_ne (tgt := 131) hx hb dX0_fire_114 (by decide) (fun c85 => ?_) (fun c85 => ?_)
                · have h := h.1 c85
                  exact gr_v (w := wX ad ca K) (u := u83) hx hb hr hlocks h hP hK hD hS dX0_fire_131
                · have h := h.2 c85
                  refine lv_aload_n hx hb dX0_fire_117 rfl (lv_at hl 3 rfl) ?_
                  refine va_get (D := (dC, dI)) (ci := 0) (v := .ref (ad 7)) (C := RX0) (T := TX0) (N := 12) hx hb hts uwX0 hown hK hP 0 rfl rfl 7 (by decide) (hts _ wd_179) (fun _ h9 => h9) rfl dX0_fire_118 ?_
                  refine lv_aload_n hx hb dX0_fire_121 rfl (lv_at hl 2 rfl) ?_
                  refine lv_dload_n hx hb dX0_fire_122 rfl (lv_at hl 1 rfl) ?_
                  refine lv_dload hx hb dX0_fire_123 (lv_at hl 0 rfl) ?_
                  refine lv_dadd hx hb dX0_fire_125 h.1 ?_
                  have h := h.2
                  refine lv_dload hx hb dX0_fire_126 (lv_at hl 0 rfl) ?_
                  refine gc_v (w := wX ad ca K) (u := u83) (va_runV (As := [.ref y49, .double (FP.dadd x4 x5), .double x5]) (rest := []) ⟨hx, hb, hml, hown, hts⟩ (cX3_put l dC dI ad ca K H.size u83 y49 (FP.dadd x4 x5) x5 _ hy50 h) (cwV 3 hts (gG_V wd_601 wd_602 wd_603 wd_50 wd_604) rfl rfl rfl (by decide +kernel) ⟨Nat.le_of_ble_eq_true rfl, Nat.le_of_ble_eq_true rfl⟩) ⟨gB_blind xE_ok, va_recv hK hP (ci := 3) (q0 := 7) rfl rfl, gB_pre xE_ok hP hK hD hE hS hA⟩ rfl rfl hl.1 rfl (lv_room (Nat.le_of_ble_eq_true rfl)) dX0_fire_128 ⟨Nat.le_of_ble_eq_true rfl, Nat.le_of_ble_eq_true rfl⟩) hD hS hA (fun u87 H locs h hP hD hS => ?_)
                  exact gr_v (w := wX ad ca K) (u := u87) hx hb hr hlocks h hP hK hD hS dX0_fire_131
    · have h := h.2 c2
      exact gr_v (w := wX ad ca K) (u := u) hx hb hr hlocks h hP hK hD hS dX0_fire_15
end
section
theorem dX0_tick_0 : decode prog_1_method_9_code 0 = .ok (.dload_n 1, 1) := by decide +kernel
theorem dX0_tick_1 : decode prog_1_method_9_code 1 = .ok (.bipush 100, 2) := by decide +kernel
theorem dX0_tick_3 : decode prog_1_method_9_code 3 = .ok (.invokestatic 168, 3) := by decide +kernel
theorem dX0_tick_6 : decode prog_1_method_9_code 6 = .ok (.aload_n 0, 1) := by decide +kernel
theorem dX0_tick_7 : decode prog_1_method_9_code 7 = .ok (.getfield 46, 3) := by decide +kernel
theorem dX0_tick_10 : decode prog_1_method_9_code 10 = .ok (.dload_n 1, 1) := by decide +kernel
theorem dX0_tick_11 : decode prog_1_method_9_code 11 = .ok (.dadd, 1) := by decide +kernel
theorem dX0_tick_12 : decode prog_1_method_9_code 12 = .ok (.dstore_n 3, 1) := by decide +kernel
theorem dX0_tick_13 : decode prog_1_method_9_code 13 = .ok (.iconst 0, 1) := by decide +kernel
theorem dX0_tick_14 : decode prog_1_method_9_code 14 = .ok (.istore 5, 2) := by decide +kernel
theorem dX0_tick_16 : decode prog_1_method_9_code 16 = .ok (.iload 5, 2) := by decide +kernel
theorem dX0_tick_18 : decode prog_1_method_9_code 18 = .ok (.bipush 20, 2) := by decide +kernel
theorem dX0_tick_20 : decode prog_1_method_9_code 20 = .ok (.if_icmp .ge 31, 3) := by decide +kernel
theorem dX0_tick_23 : decode prog_1_method_9_code 23 = .ok (.aload_n 0, 1) := by decide +kernel
theorem dX0_tick_24 : decode prog_1_method_9_code 24 = .ok (.getfield 32, 3) := by decide +kernel
theorem dX0_tick_27 : decode prog_1_method_9_code 27 = .ok (.dload_n 3, 1) := by decide +kernel
theorem dX0_tick_28 : decode prog_1_method_9_code 28 = .ok (.invokevirtual 181, 3) := by decide +kernel
theorem dX0_tick_31 : decode prog_1_method_9_code 31 = .ok (.ifCond .eq 20, 3) := by decide +kernel
theorem dX0_tick_34 : decode prog_1_method_9_code 34 = .ok (.aload_n 0, 1) := by decide +kernel
theorem dX0_tick_35 : decode prog_1_method_9_code 35 = .ok (.aload_n 0, 1) := by decide +kernel
theorem dX0_tick_36 : decode prog_1_method_9_code 36 = .ok (.getfield 32, 3) := by decide +kernel
theorem dX0_tick_39 : decode prog_1_method_9_code 39 = .ok (.invokevirtual 185, 3) := by decide +kernel
theorem dX0_tick_42 : decode prog_1_method_9_code 42 = .ok (.invokevirtual 188, 3) := by decide +kernel
theorem dX0_tick_45 : decode prog_1_method_9_code 45 = .ok (.iinc 5 1, 3) := by decide +kernel
theorem dX0_tick_48 : decode prog_1_method_9_code 48 = .ok (.goto (-32), 3) := by decide +kernel
theorem dX0_tick_51 : decode prog_1_method_9_code 51 = .ok (.aload_n 0, 1) := by decide +kernel
theorem dX0_tick_52 : decode prog_1_method_9_code 52 = .ok (.dload_n 3, 1) := by decide +kernel
theorem dX0_tick_53 : decode prog_1_method_9_code 53 = .ok (.putfield 46, 3) := by decide +kernel
theorem dX0_tick_56 : decode prog_1_method_9_code 56 = .ok (.aload_n 0, 1) := by decide +kernel
theorem dX0_tick_57 : decode prog_1_method_9_code 57 = .ok (.invokevirtual 192, 3) := by decide +kernel
theorem dX0_tick_60 : decode prog_1_method_9_code 60 = .ok (.iload 5, 2) := by decide +kernel
theorem dX0_tick_62 : decode prog_1_method_9_code 62 = .ok (.ireturn, 1) := by decide +kernel
def wpX0_tick_16 (K : KX) (post : Int32 → gS → Prop) (px : String → gS → Prop) : Nat → UInt64 → UInt64 → Int32 → gS → Prop
  | 0 => fun _ _ _ _ => False
  | n + 1 => fun l1 l3 l5 u => ((20 ≤ l5 → (∀ u5 : gS, u5 = tD u 0 l3 → (wpX0_dismissLongIdle K (fun (u7 : gS) => post l5 u7) u5))) ∧ (¬ 20 ≤ l5 → (wpX3_hasEntryUpTo K (fun (r8 : Int32) (u9 : gS) => ((r8 = 0 → (∀ u11 : gS, u11 = tD u9 0 l3 → (wpX0_dismissLongIdle K (fun (u13 : gS) => post l5 u13) u11))) ∧ (¬ r8 = 0 → (wpX3_firstPlace K (fun (r14 : Int32) (u15 : gS) => wpX0_fire K (fun (u17 : gS) => ∀ x18 : Int32, x18 = l5 + 1 → (wpX0_tick_16 K post px n l1 l3 x18 u17)) u15 r14) u9)))) u l3)))

def wpX0_tick (K : KX) (post : Int32 → gS → Prop) (px : String → gS → Prop) (u : gS) (p1 : UInt64) : Prop :=
  wpX0_checkSpan K (fun (u2 : gS) => vf_n64 (FP.dadd (sD u2 0) p1) ∧ (∀ x3 : UInt64, x3 = FP.dadd (sD u2 0) p1 → (∃ n16 : Nat, wpX0_tick_16 K post px n16 p1 x3 0 u2))) px u p1 100

set_option maxHeartbeats 8000000 in
set_option maxRecDepth 100000 in
theorem wpX0_tick_16_ok {p : Program} {l : Launch} {e : Env} {s : State} {m : MethodId} {args : Array Value} {below : List Frame} {meth : Method} {c : Code} {dC : Nat → ClassId} {dI : Nat → Nat → Nat} {ad : Nat → Nat} {ca : Nat → ClassId} {K : KX} {A : Nat → Prop} {post : Int32 → gS → Prop} {px : String → gS → Prop}   (hx : p.tables.exec = Jvm.exec) (hb : c.code = prog_1_method_9_code) (hr : meth.sig.returnType = (some .int)) (hml : c.maxLocals = 6) (hown : s.vm.findClass RX0 = some m.cls) (hts : ∀ w ∈ gW, w.before args s = true) (hlocks : meth.locks = false) (hK : va_K (dC, dI) vwCl (xT ca) s) (hA : ∀ q, s.heap.size ≤ q → A q) (hE : xE A s s.heap) (hno : ∀ x ∈ c.exceptionTable.toList, False) (hl9 : l.stackTraces = false) :
    ∀ (n : Nat) (l1 : UInt64) (l3 : UInt64) (l5 : Int32) (u : gS) (H : Heap) (locs : List Loc) (ls : Array Slot), wpX0_tick_16 K post px n l1 l3 l5 u → va_P (dC, dI) vwCl (wX ad ca K u) H → va_D A (wX ad ca K u) → va_S A s.heap H locs → lv_has ls 6 [(0, .ref (ad 0)), (1, .double l1), (3, .double l3), (5, .int l5)] → W p l e (headSpec (gw ⟨"WorkHall", "tick", "(D)I"⟩ prog_1_method_9_code 6 (some .int)) ({ frames := 110, cells := 1, slots := 6, locals := 4400 } : Room)).room s m args below meth c H locs 1 6 (vx_MQ below (va_Qi post (gAt (dC, dI) vwCl (xT ca) (wX ad ca K) (A)) (A)) (gX (dC, dI) vwCl (xT ca) (wX ad ca K) px (A)) args s 1 6 A) (F0 m 16 ls []) := by
  intro n
  induction n with
  | zero => exact fun _ _ _ _ _ _ _ h => h.elim
  | succ n ih =>
    intro l1 l3 l5 u H locs ls h hP hD hS hl
    refine lv_iload hx hb dX0_tick_16 (lv_at hl 3 rfl) ?_
    refine lv_bipush (v := 20) hx hb dX0_tick_18 (by decide) ?_
    refine lv_icmp_ge (tgt := 51) hx hb dX0_tick_20 (by decide) (fun c4 => ?_) (fun c4 => ?_)
    · have h := h.1 c4
      refine lv_aload_n hx hb dX0_tick_51 rfl (lv_at hl 0 rfl) ?_
      refine lv_dload_n hx hb dX0_tick_52 rfl (lv_at hl 2 rfl) ?_
      refine va_put (D := (dC, dI)) (ci := 0) (v := .double l3) (ty := tyX0 11) (C := RX0) (T := TX0) (N := 12) hx hb hts uwX0 tyX0 tyX0_ok nmX0 hown hK hP hD hS 0 rfl rfl 11 (by decide) (hts _ wd_183) (fun _ h9 => h9) rfl (tyX0_ok 11 (by decide)) rfl rfl (Nat.le_of_ble_eq_true rfl) dX0_tick_53 (fun H locs hP hD hS => ?_)
      obtain ⟨u5, eu5⟩ : ∃ z : gS, z = tD u 0 l3 := ⟨_, rfl⟩
      have hP : va_P (dC, dI) vwCl (wX ad ca K u5) H := by rw [eu5, wX_f0_time]; exact hP
      have hD : va_D A (wX ad ca K u5) := by rw [eu5, wX_f0_time]; exact hD
      have h := h u5 eu5
      refine lv_aload_n hx hb dX0_tick_56 rfl (lv_at hl 0 rfl) ?_
      refine gc_v (w := wX ad ca K) (u := u5) (va_runV (As := []) (rest := []) ⟨hx, hb, hml, hown, hts⟩ (cX0_dismissLongIdle l dC dI ad ca K H.size u5 _ h) (cwV 0 hts (gG_V wd_629 wd_631 wd_14 wd_46 wd_632) rfl rfl rfl (by decide +kernel) ⟨Nat.le_of_ble_eq_true rfl, Nat.le_of_ble_eq_true rfl⟩) ⟨gB_blind xE_ok, va_recv hK hP (ci := 0) (q0 := 0) rfl rfl, gB_pre xE_ok hP hK hD hE hS hA⟩ rfl rfl hl.1 rfl (lv_room (Nat.le_of_ble_eq_true rfl)) dX0_tick_57 ⟨Nat.le_of_ble_eq_true rfl, Nat.le_of_ble_eq_true rfl⟩) hD hS hA (fun u7 H locs h hP hD hS => ?_)
      refine lv_iload hx hb dX0_tick_60 (lv_at hl 3 rfl) ?_
      refine W.widen (k := 1) (n := 6) (Nat.le_of_ble_eq_true rfl) (Nat.le_of_ble_eq_true rfl) (vx_ret ?_); exact gr_i (w := wX ad ca K) (u := u7) hx hb hr hlocks h hP hK hD hS dX0_tick_62
    · have h := h.2 c4
      refine lv_aload_n hx hb dX0_tick_23 rfl (lv_at hl 0 rfl) ?_
      refine va_get (D := (dC, dI)) (ci := 0) (v := .ref (ad 7)) (C := RX0) (T := TX0) (N := 12) hx hb hts uwX0 hown hK hP 0 rfl rfl 7 (by decide) (hts _ wd_179) (fun _ h9 => h9) rfl dX0_tick_24 ?_
      refine lv_dload_n hx hb dX0_tick_27 rfl (lv_at hl 2 rfl) ?_
      refine gc_i (w := wX ad ca K) (u := u) (va_runV (As := [.double l3]) (rest := []) ⟨hx, hb, hml, hown, hts⟩ (cX3_hasEntryUpTo l dC dI ad ca K H.size u l3 _ h) (cwV 1 hts (gG_V wd_612 wd_613 wd_614 wd_50 wd_615) rfl rfl rfl (by decide +kernel) ⟨Nat.le_of_ble_eq_true rfl, Nat.le_of_ble_eq_true rfl⟩) ⟨gB_blind xE_ok, va_recv hK hP (ci := 3) (q0 := 7) rfl rfl, gB_pre xE_ok hP hK hD hE hS hA⟩ rfl rfl hl.1 rfl (lv_room (Nat.le_of_ble_eq_true rfl)) dX0_tick_28 ⟨Nat.le_of_ble_eq_true rfl, Nat.le_of_ble_eq_true rfl⟩) hD hS hA (fun r8 u9 H locs h hP hD hS => ?_)
      refine lv_if_eq (tgt := 51) hx hb dX0_tick_31 (by decide) (fun c10 => ?_) (fun c10 => ?_)
      · have h := h.1 c10
        refine lv_aload_n hx hb dX0_tick_51 rfl (lv_at hl 0 rfl) ?_
        refine lv_dload_n hx hb dX0_tick_52 rfl (lv_at hl 2 rfl) ?_
        refine va_put (D := (dC, dI)) (ci := 0) (v := .double l3) (ty := tyX0 11) (C := RX0) (T := TX0) (N := 12) hx hb hts uwX0 tyX0 tyX0_ok nmX0 hown hK hP hD hS 0 rfl rfl 11 (by decide) (hts _ wd_183) (fun _ h9 => h9) rfl (tyX0_ok 11 (by decide)) rfl rfl (Nat.le_of_ble_eq_true rfl) dX0_tick_53 (fun H locs hP hD hS => ?_)
        obtain ⟨u11, eu11⟩ : ∃ z : gS, z = tD u9 0 l3 := ⟨_, rfl⟩
        have hP : va_P (dC, dI) vwCl (wX ad ca K u11) H := by rw [eu11, wX_f0_time]; exact hP
        have hD : va_D A (wX ad ca K u11) := by rw [eu11, wX_f0_time]; exact hD
        have h := h u11 eu11
        refine lv_aload_n hx hb dX0_tick_56 rfl (lv_at hl 0 rfl) ?_
        refine gc_v (w := wX ad ca K) (u := u11) (va_runV (As := []) (rest := []) ⟨hx, hb, hml, hown, hts⟩ (cX0_dismissLongIdle l dC dI ad ca K H.size u11 _ h) (cwV 0 hts (gG_V wd_629 wd_631 wd_14 wd_46 wd_632) rfl rfl rfl (by decide +kernel) ⟨Nat.le_of_ble_eq_true rfl, Nat.le_of_ble_eq_true rfl⟩) ⟨gB_blind xE_ok, va_recv hK hP (ci := 0) (q0 := 0) rfl rfl, gB_pre xE_ok hP hK hD hE hS hA⟩ rfl rfl hl.1 rfl (lv_room (Nat.le_of_ble_eq_true rfl)) dX0_tick_57 ⟨Nat.le_of_ble_eq_true rfl, Nat.le_of_ble_eq_true rfl⟩) hD hS hA (fun u13 H locs h hP hD hS => ?_)
        refine lv_iload hx hb dX0_tick_60 (lv_at hl 3 rfl) ?_
        refine W.widen (k := 1) (n := 6) (Nat.le_of_ble_eq_true rfl) (Nat.le_of_ble_eq_true rfl) (vx_ret ?_); exact gr_i (w := wX ad ca K) (u := u13) hx hb hr hlocks h hP hK hD hS dX0_tick_62
      · have h := h.2 c10
        refine lv_aload_n hx hb dX0_tick_34 rfl (lv_at hl 0 rfl) ?_
        refine lv_aload_n hx hb dX0_tick_35 rfl (lv_at hl 0 rfl) ?_
        refine va_get (D := (dC, dI)) (ci := 0) (v := .ref (ad 7)) (C := RX0) (T := TX0) (N := 12) hx hb hts uwX0 hown hK hP 0 rfl rfl 7 (by decide) (hts _ wd_179) (fun _ h9 => h9) rfl dX0_tick_36 ?_
        refine gc_i (w := wX ad ca K) (u := u9) (va_runV (As := []) (rest := [.ref (ad 0)]) ⟨hx, hb, hml, hown, hts⟩ (cX3_firstPlace l dC dI ad ca K H.size u9 _ h) (cwV 0 hts (gG_V wd_620 wd_617 wd_618 wd_50 wd_619) rfl rfl rfl (by decide +kernel) ⟨Nat.le_of_ble_eq_true rfl, Nat.le_of_ble_eq_true rfl⟩) ⟨gB_blind xE_ok, va_recv hK hP (ci := 3) (q0 := 7) rfl rfl, gB_pre xE_ok hP hK hD hE hS hA⟩ rfl rfl hl.1 rfl (lv_room (Nat.le_of_ble_eq_true rfl)) dX0_tick_39 ⟨Nat.le_of_ble_eq_true rfl, Nat.le_of_ble_eq_true rfl⟩) hD hS hA (fun r14 u15 H locs h hP hD hS => ?_)
        refine gc_v (w := wX ad ca K) (u := u15) (va_runV (As := [.int r14]) (rest := []) ⟨hx, hb, hml, hown, hts⟩ (cX0_fire l dC dI ad ca K H.size u15 r14 _ h) (cwV 1 hts (gG_V wd_621 wd_623 wd_13 wd_46 wd_624) rfl rfl rfl (by decide +kernel) ⟨Nat.le_of_ble_eq_true rfl, Nat.le_of_ble_eq_true rfl⟩) ⟨gB_blind xE_ok, va_recv hK hP (ci := 0) (q0 := 0) rfl rfl, gB_pre xE_ok hP hK hD hE hS hA⟩ rfl rfl hl.1 rfl (lv_room (Nat.le_of_ble_eq_true rfl)) dX0_tick_42 ⟨Nat.le_of_ble_eq_true rfl, Nat.le_of_ble_eq_true rfl⟩) hD hS hA (fun u17 H locs h hP hD hS => ?_)
        obtain ⟨x18, ex18⟩ : ∃ y : Int32, y = l5 + 1 := ⟨_, rfl⟩
        have h := h x18 ex18
        refine lv_iinc (v := x18) (lv' := [(5, .int x18), (0, .ref (ad 0)), (1, .double l1), (3, .double l3)]) hx hb dX0_tick_45 hl (k := 3) rfl (by rw [ex18]; rfl) (by decide) rfl (fun ls hl => ?_)
        refine lv_goto (tgt := 16) hx hb dX0_tick_48 (by decide) ?_
        exact ih l1 l3 x18 u17 _ _ _ h hP hD hS (lv_sub hl [1, 2, 3, 0] rfl)

set_option maxHeartbeats 8000000 in
set_option maxRecDepth 100000 in
theorem cX0_tick (l : Launch) (hl9 : l.stackTraces = false) (dC : Nat → ClassId) (dI : Nat → Nat → Nat) (ad : Nat → Nat) (ca : Nat → ClassId) (K : KX) (sz : Nat) (u : gS) (p1 : UInt64) (post : Int32 → gS → Prop) (px : String → gS → Prop)  (h : wpX0_tick K post px u p1) : vx_Met l ⟨"WorkHall", "tick", "(D)I"⟩ (gw ⟨"WorkHall", "tick", "(D)I"⟩ prog_1_method_9_code 6 (some .int)) ({ frames := 110, cells := 1, slots := 6, locals := 4400 } : Room) (va_Pc [.ref (ad 0), .double p1] (gB (dC, dI) vwCl (xT ca) xE (wX ad ca K u) sz)) (va_Qi post (gAt (dC, dI) vwCl (xT ca) (wX ad ca K) (va_A (wX ad ca K u) sz)) (va_A (wX ad ca K u) sz)) (gX (dC, dI) vwCl (xT ca) (wX ad ca K) px (va_A (wX ad ca K u) sz)) 1 6 (va_A (wX ad ca K u) sz) := by
  refine vx_ofW (cc := prog_1_method_9_code) (maxL := 6) (ret := (some .int)) (by decide) rfl ?_
  intro p e s m args below meth c s₁ B hml hno hv
  obtain ⟨rfl, hsz, hP, hK, hD0, hE⟩ := hv
  have hx := B.exec
  have hb := B.bytes
  have hr := B.returns
  have hts : ∀ w ∈ gW, w.before _ s = true := fun w h9 => atoms_spec (ws := (gw ⟨"WorkHall", "tick", "(D)I"⟩ prog_1_method_9_code 6 (some .int))) B.pre w (List.mem_cons_of_mem _ h9)
  have hown : s.vm.findClass RX0 = some m.cls := findClass_of_methodNamed B.named
  have hlocks := B.notSynchronized
  subst hsz
  have hD := hD0.self (sz := s.heap.size)
  generalize hAe : va_A (wX ad ca K u) s.heap.size = A at hD hE ⊢
  have hA : ∀ q : Nat, s.heap.size ≤ q → A q := fun q h => by rw [← hAe]; exact Or.inr h
  obtain ⟨H, hHe⟩ : ∃ z : Heap, z = s.heap := ⟨_, rfl⟩
  rw [← hHe]
  have hS : va_S A s.heap H [] := by rw [hHe]; exact va_S.rf
  have hP : va_P (dC, dI) vwCl (wX ad ca K u) H := by rw [hHe]; exact hP
  have hl := lv_entry ([.ref (ad 0), .double p1]) (n := 6) (Nat.le_of_ble_eq_true rfl)
  rw [lg_entry_eq]
  generalize (lg_sl ([.ref (ad 0), .double p1]) ++ List.replicate (6 - (lg_sl ([.ref (ad 0), .double p1])).length) Slot.unset).toArray = ls at hl ⊢
  have hl : lv_has ls 6 [(0, .ref (ad 0)), (1, .double p1)] := hl
  clear hAe
  refine lv_dload_n hx hb dX0_tick_0 rfl (lv_at hl 1 rfl) ?_
  refine lv_bipush (v := 100) hx hb dX0_tick_1 (by decide) ?_
  refine gxc_v (w := wX ad ca K) (u := u) (vx_runS (As := [.double p1, .int 100]) (rest := []) ⟨hx, hb, hml, hown, hts⟩ (cX0_checkSpan l hl9 dC dI ad ca K H.size u p1 100 _ _ h) (va_cwS 2 hts (gG_S wd_597 wd_598 wd_46 wd_599) rfl rfl rfl (by decide +kernel) ⟨Nat.le_of_ble_eq_true rfl, Nat.le_of_ble_eq_true rfl⟩) ⟨gB_blind xE_ok, gB_pre xE_ok hP hK hD hE hS hA⟩ rfl rfl hl.1 rfl (lv_room (Nat.le_of_ble_eq_true rfl)) dX0_tick_3 ⟨Nat.le_of_ble_eq_true rfl, Nat.le_of_ble_eq_true rfl⟩) hD hS hA (fun E9 ce9 q9 u9 H locs h hP hD hS hce hcv hcl => gx_out hno hlocks h hP hK hD hS hce hcv hcl (Nat.le_of_ble_eq_true rfl) (Nat.le_of_ble_eq_true rfl)) (fun u2 H locs h hP hD hS => ?_)
  refine lv_aload_n hx hb dX0_tick_6 rfl (lv_at hl 0 rfl) ?_
  refine va_get (D := (dC, dI)) (ci := 0) (v := .double (sD u2 0)) (C := RX0) (T := TX0) (N := 12) hx hb hts uwX0 hown hK hP 0 rfl rfl 11 (by decide) (hts _ wd_183) (fun _ h9 => h9) rfl dX0_tick_7 ?_
  refine lv_dload_n hx hb dX0_tick_10 rfl (lv_at hl 1 rfl) ?_
  refine lv_dadd hx hb dX0_tick_11 h.1 ?_
  have h := h.2
  refine lv_topd (fun x3 ex3 => ?_)
  have h := h x3 ex3
  refine lv_dstore_n (lv' := [(3, .double x3), (0, .ref (ad 0)), (1, .double p1)]) hx hb dX0_tick_12 rfl hl (by decide) rfl (fun ls hl => ?_)
  refine lv_iconst (v := 0) hx hb dX0_tick_13 (by decide) ?_
  refine lv_istore (lv' := [(5, .int 0), (3, .double x3), (0, .ref (ad 0)), (1, .double p1)]) hx hb dX0_tick_14 hl (by decide) rfl (fun ls hl => ?_)
  obtain ⟨n16, h⟩ := h
  exact wpX0_tick_16_ok hx hb hr hml hown hts hlocks hK hA hE hno hl9 n16 p1 x3 0 u2 _ _ _ h hP hD hS (lv_sub hl [2, 3, 1, 0] rfl)

theorem dX0_step_0 : decode prog_1_method_5_code 0 = .ok (.iload_n 1, 1) := by decide +kernel
theorem dX0_step_1 : decode prog_1_method_5_code 1 = .ok (.iconst 1, 1) := by decide +kernel
theorem dX0_step_2 : decode prog_1_method_5_code 2 = .ok (.bipush 10, 2) := by decide +kernel
theorem dX0_step_4 : decode prog_1_method_5_code 4 = .ok (.invokestatic 72, 3) := by decide +kernel
theorem dX0_step_7 : decode prog_1_method_5_code 7 = .ok (.aload_n 0, 1) := by decide +kernel
theorem dX0_step_8 : decode prog_1_method_5_code 8 = .ok (.getfield 43, 3) := by decide +kernel
theorem dX0_step_11 : decode prog_1_method_5_code 11 = .ok (.istore_n 2, 1) := by decide +kernel
theorem dX0_step_12 : decode prog_1_method_5_code 12 = .ok (.iconst 0, 1) := by decide +kernel
theorem dX0_step_13 : decode prog_1_method_5_code 13 = .ok (.istore_n 3, 1) := by decide +kernel
theorem dX0_step_14 : decode prog_1_method_5_code 14 = .ok (.iload_n 3, 1) := by decide +kernel
theorem dX0_step_15 : decode prog_1_method_5_code 15 = .ok (.iload_n 1, 1) := by decide +kernel
theorem dX0_step_16 : decode prog_1_method_5_code 16 = .ok (.if_icmp .ge 13, 3) := by decide +kernel
theorem dX0_step_19 : decode prog_1_method_5_code 19 = .ok (.aload_n 0, 1) := by decide +kernel
theorem dX0_step_20 : decode prog_1_method_5_code 20 = .ok (.invokevirtual 119, 3) := by decide +kernel
theorem dX0_step_23 : decode prog_1_method_5_code 23 = .ok (.iinc 3 1, 3) := by decide +kernel
theorem dX0_step_26 : decode prog_1_method_5_code 26 = .ok (.goto (-12), 3) := by decide +kernel
theorem dX0_step_29 : decode prog_1_method_5_code 29 = .ok (.aload_n 0, 1) := by decide +kernel
theorem dX0_step_30 : decode prog_1_method_5_code 30 = .ok (.invokevirtual 122, 3) := by decide +kernel
theorem dX0_step_33 : decode prog_1_method_5_code 33 = .ok (.aload_n 0, 1) := by decide +kernel
theorem dX0_step_34 : decode prog_1_method_5_code 34 = .ok (.getfield 43, 3) := by decide +kernel
theorem dX0_step_37 : decode prog_1_method_5_code 37 = .ok (.iload_n 2, 1) := by decide +kernel
theorem dX0_step_38 : decode prog_1_method_5_code 38 = .ok (.isub, 1) := by decide +kernel
theorem dX0_step_39 : decode prog_1_method_5_code 39 = .ok (.ireturn, 1) := by decide +kernel
def wpX0_step_14 (K : KX) (post : Int32 → gS → Prop) (px : String → gS → Prop) : Nat → Int32 → Int32 → Int32 → gS → Prop
  | 0 => fun _ _ _ _ => False
  | n + 1 => fun l1 l2 l3 u => ((l1 ≤ l3 → (wpX0_endIfSettled K (fun (u6 : gS) => post ((sI u6 1) - l2) u6) u)) ∧ (¬ l1 ≤ l3 → (wpX0_runStep K (fun (u8 : gS) => ∀ x9 : Int32, x9 = l3 + 1 → (wpX0_step_14 K post px n l1 l2 x9 u8)) u)))

def wpX0_step (K : KX) (post : Int32 → gS → Prop) (px : String → gS → Prop) (u : gS) (p1 : Int32) : Prop :=
  wpX0_checkRange K (fun (u2 : gS) => ∀ x3 : Int32, x3 = sI u2 1 → (∃ n14 : Nat, wpX0_step_14 K post px n14 p1 x3 0 u2)) px u p1 1 10

set_option maxHeartbeats 8000000 in
set_option maxRecDepth 100000 in
theorem wpX0_step_14_ok {p : Program} {l : Launch} {e : Env} {s : State} {m : MethodId} {args : Array Value} {below : List Frame} {meth : Method} {c : Code} {dC : Nat → ClassId} {dI : Nat → Nat → Nat} {ad : Nat → Nat} {ca : Nat → ClassId} {K : KX} {A : Nat → Prop} {post : Int32 → gS → Prop} {px : String → gS → Prop}   (hx : p.tables.exec = Jvm.exec) (hb : c.code = prog_1_method_5_code) (hr : meth.sig.returnType = (some .int)) (hml : c.maxLocals = 4) (hown : s.vm.findClass RX0 = some m.cls) (hts : ∀ w ∈ gW, w.before args s = true) (hlocks : meth.locks = false) (hK : va_K (dC, dI) vwCl (xT ca) s) (hA : ∀ q, s.heap.size ≤ q → A q) (hE : xE A s s.heap) (hno : ∀ x ∈ c.exceptionTable.toList, False) (hl9 : l.stackTraces = false) :
    ∀ (n : Nat) (l1 : Int32) (l2 : Int32) (l3 : Int32) (u : gS) (H : Heap) (locs : List Loc) (ls : Array Slot), wpX0_step_14 K post px n l1 l2 l3 u → va_P (dC, dI) vwCl (wX ad ca K u) H → va_D A (wX ad ca K u) → va_S A s.heap H locs → lv_has ls 4 [(0, .ref (ad 0)), (1, .int l1), (2, .int l2), (3, .int l3)] → W p l e (headSpec (gw ⟨"WorkHall", "step", "(I)I"⟩ prog_1_method_5_code 4 (some .int)) ({ frames := 113, cells := 1, slots := 6, locals := 4520 } : Room)).room s m args below meth c H locs 1 6 (vx_MQ below (va_Qi post (gAt (dC, dI) vwCl (xT ca) (wX ad ca K) (A)) (A)) (gX (dC, dI) vwCl (xT ca) (wX ad ca K) px (A)) args s 1 6 A) (F0 m 14 ls []) := by
  intro n
  induction n with
  | zero => exact fun _ _ _ _ _ _ _ h => h.elim
  | succ n ih =>
    intro l1 l2 l3 u H locs ls h hP hD hS hl
    refine lv_iload_n hx hb dX0_step_14 rfl (lv_at hl 3 rfl) ?_
    refine lv_iload_n hx hb dX0_step_15 rfl (lv_at hl 1 rfl) ?_
    refine lv_icmp_ge (tgt := 29) hx hb dX0_step_16 (by decide) (fun c4 => ?_) (fun c4 => ?_)
    · have h := h.1 c4
      refine lv_aload_n hx hb dX0_step_29 rfl (lv_at hl 0 rfl) ?_
      refine gc_v (w := wX ad ca K) (u := u) (va_runV (As := []) (rest := []) ⟨hx, hb, hml, hown, hts⟩ (cX0_endIfSettled l dC dI ad ca K H.size u _ h) (cwV 0 hts (gG_V wd_525 wd_527 wd_12 wd_46 wd_528) rfl rfl rfl (by decide +kernel) ⟨Nat.le_of_ble_eq_true rfl, Nat.le_of_ble_eq_true rfl⟩) ⟨gB_blind xE_ok, va_recv hK hP (ci := 0) (q0 := 0) rfl rfl, gB_pre xE_ok hP hK hD hE hS hA⟩ rfl rfl hl.1 rfl (lv_room (Nat.le_of_ble_eq_true rfl)) dX0_step_30 ⟨Nat.le_of_ble_eq_true rfl, Nat.le_of_ble_eq_true rfl⟩) hD hS hA (fun u6 H locs h hP hD hS => ?_)
      refine lv_aload_n hx hb dX0_step_33 rfl (lv_at hl 0 rfl) ?_
      refine va_get (D := (dC, dI)) (ci := 0) (v := .int (sI u6 1)) (C := RX0) (T := TX0) (N := 12) hx hb hts uwX0 hown hK hP 0 rfl rfl 10 (by decide) (hts _ wd_182) (fun _ h9 => h9) rfl dX0_step_34 ?_
      refine lv_iload_n hx hb dX0_step_37 rfl (lv_at hl 2 rfl) ?_
      refine lv_isub hx hb dX0_step_38 ?_
      refine W.widen (k := 1) (n := 6) (Nat.le_of_ble_eq_true rfl) (Nat.le_of_ble_eq_true rfl) (vx_ret ?_); exact gr_i (w := wX ad ca K) (u := u6) hx hb hr hlocks h hP hK hD hS dX0_step_39
    · have h := h.2 c4
      refine lv_aload_n hx hb dX0_step_19 rfl (lv_at hl 0 rfl) ?_
      refine gc_v (w := wX ad ca K) (u := u) (va_runV (As := []) (rest := []) ⟨hx, hb, hml, hown, hts⟩ (cX0_runStep l dC dI ad ca K H.size u _ h) (cwV 0 hts (gG_V wd_495 wd_497 wd_8 wd_46 wd_498) rfl rfl rfl (by decide +kernel) ⟨Nat.le_of_ble_eq_true rfl, Nat.le_of_ble_eq_true rfl⟩) ⟨gB_blind xE_ok, va_recv hK hP (ci := 0) (q0 := 0) rfl rfl, gB_pre xE_ok hP hK hD hE hS hA⟩ rfl rfl hl.1 rfl (lv_room (Nat.le_of_ble_eq_true rfl)) dX0_step_20 ⟨Nat.le_of_ble_eq_true rfl, Nat.le_of_ble_eq_true rfl⟩) hD hS hA (fun u8 H locs h hP hD hS => ?_)
      obtain ⟨x9, ex9⟩ : ∃ y : Int32, y = l3 + 1 := ⟨_, rfl⟩
      have h := h x9 ex9
      refine lv_iinc (v := x9) (lv' := [(3, .int x9), (0, .ref (ad 0)), (1, .int l1), (2, .int l2)]) hx hb dX0_step_23 hl (k := 3) rfl (by rw [ex9]; rfl) (by decide) rfl (fun ls hl => ?_)
      refine lv_goto (tgt := 14) hx hb dX0_step_26 (by decide) ?_
      exact ih l1 l2 x9 u8 _ _ _ h hP hD hS (lv_sub hl [1, 2, 3, 0] rfl)

set_option maxHeartbeats 8000000 in
set_option maxRecDepth 100000 in
theorem cX0_step (l : Launch) (hl9 : l.stackTraces = false) (dC : Nat → ClassId) (dI : Nat → Nat → Nat) (ad : Nat → Nat) (ca : Nat → ClassId) (K : KX) (sz : Nat) (u : gS) (p1 : Int32) (post : Int32 → gS → Prop) (px : String → gS → Prop)  (h : wpX0_step K post px u p1) : vx_Met l ⟨"WorkHall", "step", "(I)I"⟩ (gw ⟨"WorkHall", "step", "(I)I"⟩ prog_1_method_5_code 4 (some .int)) ({ frames := 113, cells := 1, slots := 6, locals := 4520 } : Room) (va_Pc [.ref (ad 0), .int p1] (gB (dC, dI) vwCl (xT ca) xE (wX ad ca K u) sz)) (va_Qi post (gAt (dC, dI) vwCl (xT ca) (wX ad ca K) (va_A (wX ad ca K u) sz)) (va_A (wX ad ca K u) sz)) (gX (dC, dI) vwCl (xT ca) (wX ad ca K) px (va_A (wX ad ca K u) sz)) 1 6 (va_A (wX ad ca K u) sz) := by
  refine vx_ofW (cc := prog_1_method_5_code) (maxL := 4) (ret := (some .int)) (by decide) rfl ?_
  intro p e s m args below meth c s₁ B hml hno hv
  obtain ⟨rfl, hsz, hP, hK, hD0, hE⟩ := hv
  have hx := B.exec
  have hb := B.bytes
  have hr := B.returns
  have hts : ∀ w ∈ gW, w.before _ s = true := fun w h9 => atoms_spec (ws := (gw ⟨"WorkHall", "step", "(I)I"⟩ prog_1_method_5_code 4 (some .int))) B.pre w (List.mem_cons_of_mem _ h9)
  have hown : s.vm.findClass RX0 = some m.cls := findClass_of_methodNamed B.named
  have hlocks := B.notSynchronized
  subst hsz
  have hD := hD0.self (sz := s.heap.size)
  generalize hAe : va_A (wX ad ca K u) s.heap.size = A at hD hE ⊢
  have hA : ∀ q : Nat, s.heap.size ≤ q → A q := fun q h => by rw [← hAe]; exact Or.inr h
  obtain ⟨H, hHe⟩ : ∃ z : Heap, z = s.heap := ⟨_, rfl⟩
  rw [← hHe]
  have hS : va_S A s.heap H [] := by rw [hHe]; exact va_S.rf
  have hP : va_P (dC, dI) vwCl (wX ad ca K u) H := by rw [hHe]; exact hP
  have hl := lv_entry ([.ref (ad 0), .int p1]) (n := 4) (Nat.le_of_ble_eq_true rfl)
  rw [lg_entry_eq]
  generalize (lg_sl ([.ref (ad 0), .int p1]) ++ List.replicate (4 - (lg_sl ([.ref (ad 0), .int p1])).length) Slot.unset).toArray = ls at hl ⊢
  have hl : lv_has ls 4 [(0, .ref (ad 0)), (1, .int p1)] := hl
  clear hAe
  refine lv_iload_n hx hb dX0_step_0 rfl (lv_at hl 1 rfl) ?_
  refine lv_iconst (v := 1) hx hb dX0_step_1 (by decide) ?_
  refine lv_bipush (v := 10) hx hb dX0_step_2 (by decide) ?_
  refine gxc_v (w := wX ad ca K) (u := u) (vx_runS (As := [.int p1, .int 1, .int 10]) (rest := []) ⟨hx, hb, hml, hown, hts⟩ (cX0_checkRange l hl9 dC dI ad ca K H.size u p1 1 10 _ _ h) (va_cwS 3 hts (gG_S wd_221 wd_222 wd_46 wd_223) rfl rfl rfl (by decide +kernel) ⟨Nat.le_of_ble_eq_true rfl, Nat.le_of_ble_eq_true rfl⟩) ⟨gB_blind xE_ok, gB_pre xE_ok hP hK hD hE hS hA⟩ rfl rfl hl.1 rfl (lv_room (Nat.le_of_ble_eq_true rfl)) dX0_step_4 ⟨Nat.le_of_ble_eq_true rfl, Nat.le_of_ble_eq_true rfl⟩) hD hS hA (fun E9 ce9 q9 u9 H locs h hP hD hS hce hcv hcl => gx_out hno hlocks h hP hK hD hS hce hcv hcl (Nat.le_of_ble_eq_true rfl) (Nat.le_of_ble_eq_true rfl)) (fun u2 H locs h hP hD hS => ?_)
  refine lv_aload_n hx hb dX0_step_7 rfl (lv_at hl 0 rfl) ?_
  refine va_get (D := (dC, dI)) (ci := 0) (v := .int (sI u2 1)) (C := RX0) (T := TX0) (N := 12) hx hb hts uwX0 hown hK hP 0 rfl rfl 10 (by decide) (hts _ wd_182) (fun _ h9 => h9) rfl dX0_step_8 ?_
  refine lv_topi (fun x3 ex3 => ?_)
  have h := h x3 ex3
  refine lv_istore_n (lv' := [(2, .int x3), (0, .ref (ad 0)), (1, .int p1)]) hx hb dX0_step_11 rfl hl (by decide) rfl (fun ls hl => ?_)
  refine lv_iconst (v := 0) hx hb dX0_step_12 (by decide) ?_
  refine lv_istore_n (lv' := [(3, .int 0), (2, .int x3), (0, .ref (ad 0)), (1, .int p1)]) hx hb dX0_step_13 rfl hl (by decide) rfl (fun ls hl => ?_)
  obtain ⟨n14, h⟩ := h
  exact wpX0_step_14_ok hx hb hr hml hown hts hlocks hK hA hE hno hl9 n14 p1 x3 0 u2 _ _ _ h hP hD hS (lv_sub hl [2, 3, 1, 0] rfl)

theorem dX0_submit_0 : decode prog_1_method_3_code 0 = .ok (.aload_n 0, 1) := by decide +kernel
theorem dX0_submit_1 : decode prog_1_method_3_code 1 = .ok (.iload_n 1, 1) := by decide +kernel
theorem dX0_submit_2 : decode prog_1_method_3_code 2 = .ok (.invokevirtual 86, 3) := by decide +kernel
theorem dX0_submit_5 : decode prog_1_method_3_code 5 = .ok (.astore_n 2, 1) := by decide +kernel
theorem dX0_submit_6 : decode prog_1_method_3_code 6 = .ok (.aload_n 2, 1) := by decide +kernel
theorem dX0_submit_7 : decode prog_1_method_3_code 7 = .ok (.getfield 90, 3) := by decide +kernel
theorem dX0_submit_10 : decode prog_1_method_3_code 10 = .ok (.ifCond .eq 13, 3) := by decide +kernel
theorem dX0_submit_13 : decode prog_1_method_3_code 13 = .ok (.new 76, 3) := by decide +kernel
theorem dX0_submit_16 : decode prog_1_method_3_code 16 = .ok (.dup, 1) := by decide +kernel
theorem dX0_submit_17 : decode prog_1_method_3_code 17 = .ok (.ldc 93, 2) := by decide +kernel
theorem dX0_submit_19 : decode prog_1_method_3_code 19 = .ok (.invokespecial 80, 3) := by decide +kernel
theorem dX0_submit_22 : decode prog_1_method_3_code 22 = .ok (.athrow, 1) := by decide +kernel
theorem dX0_submit_23 : decode prog_1_method_3_code 23 = .ok (.aload_n 0, 1) := by decide +kernel
theorem dX0_submit_24 : decode prog_1_method_3_code 24 = .ok (.aload_n 2, 1) := by decide +kernel
theorem dX0_submit_25 : decode prog_1_method_3_code 25 = .ok (.iconst 0, 1) := by decide +kernel
theorem dX0_submit_26 : decode prog_1_method_3_code 26 = .ok (.invokevirtual 95, 3) := by decide +kernel
theorem dX0_submit_29 : decode prog_1_method_3_code 29 = .ok (.aload_n 2, 1) := by decide +kernel
theorem dX0_submit_30 : decode prog_1_method_3_code 30 = .ok (.getfield 90, 3) := by decide +kernel
theorem dX0_submit_33 : decode prog_1_method_3_code 33 = .ok (.bipush 6, 2) := by decide +kernel
theorem dX0_submit_35 : decode prog_1_method_3_code 35 = .ok (.if_icmp .ne 13, 3) := by decide +kernel
theorem dX0_submit_38 : decode prog_1_method_3_code 38 = .ok (.new 99, 3) := by decide +kernel
theorem dX0_submit_41 : decode prog_1_method_3_code 41 = .ok (.dup, 1) := by decide +kernel
theorem dX0_submit_42 : decode prog_1_method_3_code 42 = .ok (.ldc 101, 2) := by decide +kernel
theorem dX0_submit_44 : decode prog_1_method_3_code 44 = .ok (.invokespecial 103, 3) := by decide +kernel
theorem dX0_submit_47 : decode prog_1_method_3_code 47 = .ok (.athrow, 1) := by decide +kernel
theorem dX0_submit_48 : decode prog_1_method_3_code 48 = .ok (.aload_n 2, 1) := by decide +kernel
theorem dX0_submit_49 : decode prog_1_method_3_code 49 = .ok (.getfield 90, 3) := by decide +kernel
theorem dX0_submit_52 : decode prog_1_method_3_code 52 = .ok (.ireturn, 1) := by decide +kernel
def wpX0_submit (K : KX) (post : Int32 → gS → Prop) (px : String → gS → Prop) (u : gS) (p1 : Int32) : Prop :=
  wpX0_known K (fun (r1 : Option Nat) (u2 : gS) => ∃ y3 : Nat, r1 = some y3 ∧ y3 ∈ K.2.2.1 ∧ ((((sA u2 0 y3) = 0 → (wpX0_admit 26 K (fun (u7 : gS) => ((¬ (sA u7 0 y3) = 6 → (post (sA u7 0 y3) u7)) ∧ ((sA u7 0 y3) = 6 → (px "java/lang/UnsupportedOperationException" u7)))) u2 y3 0)) ∧ (¬ (sA u2 0 y3) = 0 → (px "java/lang/IllegalStateException" u2))))) px u p1

set_option maxHeartbeats 8000000 in
set_option maxRecDepth 100000 in
theorem cX0_submit (l : Launch) (hl9 : l.stackTraces = false) (dC : Nat → ClassId) (dI : Nat → Nat → Nat) (ad : Nat → Nat) (ca : Nat → ClassId) (K : KX) (sz : Nat) (u : gS) (p1 : Int32) (post : Int32 → gS → Prop) (px : String → gS → Prop)  (h : wpX0_submit K post px u p1) : vx_Met l ⟨"WorkHall", "submit", "(I)I"⟩ (gw ⟨"WorkHall", "submit", "(I)I"⟩ prog_1_method_3_code 3 (some .int)) ({ frames := 109, cells := 3, slots := 18, locals := 4360 } : Room) (va_Pc [.ref (ad 0), .int p1] (gB (dC, dI) vwCl (xT ca) xE (wX ad ca K u) sz)) (va_Qi post (gAt (dC, dI) vwCl (xT ca) (wX ad ca K) (va_A (wX ad ca K u) sz)) (va_A (wX ad ca K u) sz)) (gX (dC, dI) vwCl (xT ca) (wX ad ca K) px (va_A (wX ad ca K u) sz)) 3 18 (va_A (wX ad ca K u) sz) := by
  refine vx_ofW (cc := prog_1_method_3_code) (maxL := 3) (ret := (some .int)) (by decide) rfl ?_
  intro p e s m args below meth c s₁ B hml hno hv
  obtain ⟨rfl, hsz, hP, hK, hD0, hE⟩ := hv
  have hx := B.exec
  have hb := B.bytes
  have hr := B.returns
  have hts : ∀ w ∈ gW, w.before _ s = true := fun w h9 => atoms_spec (ws := (gw ⟨"WorkHall", "submit", "(I)I"⟩ prog_1_method_3_code 3 (some .int))) B.pre w (List.mem_cons_of_mem _ h9)
  have hown : s.vm.findClass RX0 = some m.cls := findClass_of_methodNamed B.named
  have hlocks := B.notSynchronized
  subst hsz
  have hD := hD0.self (sz := s.heap.size)
  generalize hAe : va_A (wX ad ca K u) s.heap.size = A at hD hE ⊢
  have hA : ∀ q : Nat, s.heap.size ≤ q → A q := fun q h => by rw [← hAe]; exact Or.inr h
  obtain ⟨H, hHe⟩ : ∃ z : Heap, z = s.heap := ⟨_, rfl⟩
  rw [← hHe]
  have hS : va_S A s.heap H [] := by rw [hHe]; exact va_S.rf
  have hP : va_P (dC, dI) vwCl (wX ad ca K u) H := by rw [hHe]; exact hP
  have hl := lv_entry ([.ref (ad 0), .int p1]) (n := 3) (Nat.le_of_ble_eq_true rfl)
  rw [lg_entry_eq]
  generalize (lg_sl ([.ref (ad 0), .int p1]) ++ List.replicate (3 - (lg_sl ([.ref (ad 0), .int p1])).length) Slot.unset).toArray = ls at hl ⊢
  have hl : lv_has ls 3 [(0, .ref (ad 0)), (1, .int p1)] := hl
  clear hAe
  refine lv_aload_n hx hb dX0_submit_0 rfl (lv_at hl 0 rfl) ?_
  refine lv_iload_n hx hb dX0_submit_1 rfl (lv_at hl 1 rfl) ?_
  refine gxc_q (w := wX ad ca K) (u := u) (vx_runV (As := [.int p1]) (rest := []) ⟨hx, hb, hml, hown, hts⟩ (cX0_known l hl9 dC dI ad ca K H.size u p1 _ _ h) (cwV 1 hts (gG_V wd_364 wd_366 wd_1 wd_46 wd_367) rfl rfl rfl (by decide +kernel) ⟨Nat.le_of_ble_eq_true rfl, Nat.le_of_ble_eq_true rfl⟩) ⟨gB_blind xE_ok, va_recv hK hP (ci := 0) (q0 := 0) rfl rfl, gB_pre xE_ok hP hK hD hE hS hA⟩ rfl rfl hl.1 rfl (lv_room (Nat.le_of_ble_eq_true rfl)) dX0_submit_2 ⟨Nat.le_of_ble_eq_true rfl, Nat.le_of_ble_eq_true rfl⟩) hD hS hA (fun E9 ce9 q9 u9 H locs h hP hD hS hce hcv hcl => gx_out hno hlocks h hP hK hD hS hce hcv hcl (Nat.le_of_ble_eq_true rfl) (Nat.le_of_ble_eq_true rfl)) (fun r1 u2 H locs h hP hD hS => ?_)
  refine gq_astore_n (r := r1) (lv' := [(2, va_rf r1), (0, .ref (ad 0)), (1, .int p1)]) hx hb dX0_submit_5 rfl hl (by decide) rfl (fun ls hl => ?_)
  refine gq_aload_n (r := r1) hx hb dX0_submit_6 rfl (lv_at hl 0 rfl) ?_
  obtain ⟨y3, rfl, hy4, h⟩ := h
  obtain ⟨k9, hk9⟩ := xJ_get hy4
  refine va_get (D := (dC, dI)) (ci := 5) (v := .int (sA u2 0 y3)) (C := RX5) (T := TX5) (N := 9) hx hb hts uwX5 hown hK hP k9 hk9 rfl 5 (by decide) (hts _ wd_327) (fun _ h9 => h9) rfl dX0_submit_7 ?_
  refine lv_if_eq (tgt := 23) hx hb dX0_submit_10 (by decide) (fun c5 => ?_) (fun c5 => ?_)
  · have h := h.1 c5
    refine lv_aload_n hx hb dX0_submit_23 rfl (lv_at hl 1 rfl) ?_
    refine lv_aload_n hx hb dX0_submit_24 rfl (lv_at hl 0 rfl) ?_
    refine lv_iconst (v := 0) hx hb dX0_submit_25 (by decide) ?_
    refine gc_v (w := wX ad ca K) (u := u2) (va_runV (As := [.ref y3, .int 0]) (rest := []) ⟨hx, hb, hml, hown, hts⟩ (cX0_admit l dC dI ad ca K 26 H.size u2 y3 0 _ hy4 h) (cwV 2 hts (gG_V wd_389 wd_391 wd_3 wd_46 wd_392) rfl rfl rfl (by decide +kernel) ⟨Nat.le_of_ble_eq_true rfl, Nat.le_of_ble_eq_true rfl⟩) ⟨gB_blind xE_ok, va_recv hK hP (ci := 0) (q0 := 0) rfl rfl, gB_pre xE_ok hP hK hD hE hS hA⟩ rfl rfl hl.1 rfl (lv_room (Nat.le_of_ble_eq_true rfl)) dX0_submit_26 ⟨Nat.le_of_ble_eq_true rfl, Nat.le_of_ble_eq_true rfl⟩) hD hS hA (fun u7 H locs h hP hD hS => ?_)
    refine lv_aload_n hx hb dX0_submit_29 rfl (lv_at hl 0 rfl) ?_
    obtain ⟨k9, hk9⟩ := xJ_get hy4
    refine va_get (D := (dC, dI)) (ci := 5) (v := .int (sA u7 0 y3)) (C := RX5) (T := TX5) (N := 9) hx hb hts uwX5 hown hK hP k9 hk9 rfl 5 (by decide) (hts _ wd_327) (fun _ h9 => h9) rfl dX0_submit_30 ?_
    refine lv_bipush (v := 6) hx hb dX0_submit_33 (by decide) ?_
    refine lv_icmp_ne (tgt := 48) hx hb dX0_submit_35 (by decide) (fun c8 => ?_) (fun c8 => ?_)
    · have h := h.1 c8
      refine lv_aload_n hx hb dX0_submit_48 rfl (lv_at hl 0 rfl) ?_
      obtain ⟨k9, hk9⟩ := xJ_get hy4
      refine va_get (D := (dC, dI)) (ci := 5) (v := .int (sA u7 0 y3)) (C := RX5) (T := TX5) (N := 9) hx hb hts uwX5 hown hK hP k9 hk9 rfl 5 (by decide) (hts _ wd_327) (fun _ h9 => h9) rfl dX0_submit_49 ?_
      refine W.widen (k := 3) (n := 18) (Nat.le_of_ble_eq_true rfl) (Nat.le_of_ble_eq_true rfl) (vx_ret ?_); exact gr_i (w := wX ad ca K) (u := u7) hx hb hr hlocks h hP hK hD hS dX0_submit_52
    · have h := h.2 c8
      obtain ⟨sa9, hs9⟩ := xE_text hE 101 "the job is refused" (by decide +kernel); exact vx_throwS (names := xSup) hx hb hl9 hown (by decide +kernel) (by decide +kernel) (hts _ wd_459) (hts _ wd_60) hs9 (tw_uoe hts (xE_face hE)) tg_uoe (xE_U hE) (xE_N hE) hS (hl.1.trans hml.symm) dX0_submit_38 dX0_submit_41 dX0_submit_42 dX0_submit_44 dX0_submit_47 (fun x hx => (hno x hx).elim) (Nat.le_of_ble_eq_true rfl) (Nat.le_of_ble_eq_true rfl) (Nat.le_of_ble_eq_true rfl) (Nat.le_of_ble_eq_true rfl) hlocks (fun t ha hz hq => gx_thrown h hP hK hD hS ha hz hq) hS.2.2 (Nat.le_of_ble_eq_true rfl) (Nat.le_of_ble_eq_true rfl)
  · have h := h.2 c5
    obtain ⟨sa9, hs9⟩ := xE_text hE 93 "the job is not new" (by decide +kernel); exact vx_throwS (names := xSup) hx hb hl9 hown (by decide +kernel) (by decide +kernel) (hts _ wd_295) (hts _ wd_57) hs9 (tw_ise hts (xE_face hE)) tg_ise (xE_U hE) (xE_N hE) hS (hl.1.trans hml.symm) dX0_submit_13 dX0_submit_16 dX0_submit_17 dX0_submit_19 dX0_submit_22 (fun x hx => (hno x hx).elim) (Nat.le_of_ble_eq_true rfl) (Nat.le_of_ble_eq_true rfl) (Nat.le_of_ble_eq_true rfl) (Nat.le_of_ble_eq_true rfl) hlocks (fun t ha hz hq => gx_thrown h hP hK hD hS ha hz hq) hS.2.2 (Nat.le_of_ble_eq_true rfl) (Nat.le_of_ble_eq_true rfl)
end
