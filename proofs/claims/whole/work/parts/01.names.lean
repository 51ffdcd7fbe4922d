-- ===== PART A: goes FIRST, ahead of the names: the tables' words, and 'selects' of the private methods out of them =====
/-- a private method of a class that the tables say can be made, by its rows of tables_1 -/
def lw_okq (q : MethodName × Nat) : Prop := (q.1.cls ≠ "java/lang/invoke/MethodHandle" ∧ q.1.cls ≠ "java/lang/invoke/VarHandle") ∧ Cond.instantiable q.1.cls q.2 ∈ tables_1 ∧ Cond.privateMethod q.1 ∈ tables_1 ∧ Cond.instanceMethod q.1 ∈ tables_1
theorem lw_p0 : lw_okq (⟨"ParticleLines$State", "startAnew", "(III)V"⟩, 7) := ⟨⟨by decide +kernel, by decide +kernel⟩, List.mem_of_getElem? (i := 38) (by decide +kernel), List.mem_of_getElem? (i := 108) (by decide +kernel), List.mem_of_getElem? (i := 109) (by decide +kernel)⟩
theorem lw_p1 : lw_okq (⟨"ParticleLines", "keepDraftUnlessError", "(I)I"⟩, 8) := ⟨⟨by decide +kernel, by decide +kernel⟩, List.mem_of_getElem? (i := 12) (by decide +kernel), List.mem_of_getElem? (i := 247) (by decide +kernel), List.mem_of_getElem? (i := 248) (by decide +kernel)⟩
theorem lw_p2 : lw_okq (⟨"ParticleLines$Choice", "chooseByOffset", "(LParticleLines$Weights;I)V"⟩, 3) := ⟨⟨by decide +kernel, by decide +kernel⟩, List.mem_of_getElem? (i := 20) (by decide +kernel), List.mem_of_getElem? (i := 348) (by decide +kernel), List.mem_of_getElem? (i := 349) (by decide +kernel)⟩
theorem lw_p3 : lw_okq (⟨"ParticleLines$Choice", "chooseByNoises", "(LParticleLines$Weights;)V"⟩, 3) := ⟨⟨by decide +kernel, by decide +kernel⟩, List.mem_of_getElem? (i := 20) (by decide +kernel), List.mem_of_getElem? (i := 361) (by decide +kernel), List.mem_of_getElem? (i := 362) (by decide +kernel)⟩
theorem lw_p4 : lw_okq (⟨"ParticleLines$Choice", "chooseByShares", "(LParticleLines$Weights;)V"⟩, 3) := ⟨⟨by decide +kernel, by decide +kernel⟩, List.mem_of_getElem? (i := 20) (by decide +kernel), List.mem_of_getElem? (i := 366) (by decide +kernel), List.mem_of_getElem? (i := 367) (by decide +kernel)⟩
theorem lw_p5 : lw_okq (⟨"ParticleLines$Choice", "restsAheadOf", "(IJ)I"⟩, 3) := ⟨⟨by decide +kernel, by decide +kernel⟩, List.mem_of_getElem? (i := 20) (by decide +kernel), List.mem_of_getElem? (i := 371) (by decide +kernel), List.mem_of_getElem? (i := 372) (by decide +kernel)⟩
theorem lw_p6 : lw_okq (⟨"ParticleLines$Lineage", "isFirstAtItsPlace", "(II)Z"⟩, 8) := ⟨⟨by decide +kernel, by decide +kernel⟩, List.mem_of_getElem? (i := 44) (by decide +kernel), List.mem_of_getElem? (i := 480) (by decide +kernel), List.mem_of_getElem? (i := 481) (by decide +kernel)⟩
theorem lw_p7 : lw_okq (⟨"ParticleLines$Script", "readOrder", "()Z"⟩, 10) := ⟨⟨by decide +kernel, by decide +kernel⟩, List.mem_of_getElem? (i := 152) (by decide +kernel), List.mem_of_getElem? (i := 586) (by decide +kernel), List.mem_of_getElem? (i := 587) (by decide +kernel)⟩
theorem lw_p8 : lw_okq (⟨"ParticleLines$Script", "here", "()I"⟩, 10) := ⟨⟨by decide +kernel, by decide +kernel⟩, List.mem_of_getElem? (i := 152) (by decide +kernel), List.mem_of_getElem? (i := 590) (by decide +kernel), List.mem_of_getElem? (i := 591) (by decide +kernel)⟩
theorem lw_p9 : lw_okq (⟨"ParticleLines$Script", "readNumbers", "()Z"⟩, 10) := ⟨⟨by decide +kernel, by decide +kernel⟩, List.mem_of_getElem? (i := 152) (by decide +kernel), List.mem_of_getElem? (i := 594) (by decide +kernel), List.mem_of_getElem? (i := 595) (by decide +kernel)⟩
theorem lw_p10 : lw_okq (⟨"ParticleLines$Script", "pass", "(C)Z"⟩, 10) := ⟨⟨by decide +kernel, by decide +kernel⟩, List.mem_of_getElem? (i := 152) (by decide +kernel), List.mem_of_getElem? (i := 598) (by decide +kernel), List.mem_of_getElem? (i := 599) (by decide +kernel)⟩
theorem lw_p11 : lw_okq (⟨"ParticleLines$Script", "isDigitHere", "()Z"⟩, 10) := ⟨⟨by decide +kernel, by decide +kernel⟩, List.mem_of_getElem? (i := 152) (by decide +kernel), List.mem_of_getElem? (i := 602) (by decide +kernel), List.mem_of_getElem? (i := 603) (by decide +kernel)⟩
theorem lw_p12 : lw_okq (⟨"ParticleLines$Script", "readNumber", "()I"⟩, 10) := ⟨⟨by decide +kernel, by decide +kernel⟩, List.mem_of_getElem? (i := 152) (by decide +kernel), List.mem_of_getElem? (i := 607) (by decide +kernel), List.mem_of_getElem? (i := 608) (by decide +kernel)⟩
theorem lw_p13 : lw_okq (⟨"ParticleLinesModel", "lays", "(III)V"⟩, 18) := ⟨⟨by decide +kernel, by decide +kernel⟩, List.mem_of_getElem? (i := 627) (by decide +kernel), List.mem_of_getElem? (i := 633) (by decide +kernel), List.mem_of_getElem? (i := 634) (by decide +kernel)⟩
theorem lw_p14 : lw_okq (⟨"ParticleLinesModel", "changes", "()V"⟩, 18) := ⟨⟨by decide +kernel, by decide +kernel⟩, List.mem_of_getElem? (i := 627) (by decide +kernel), List.mem_of_getElem? (i := 701) (by decide +kernel), List.mem_of_getElem? (i := 702) (by decide +kernel)⟩
theorem lw_p15 : lw_okq (⟨"ParticleLinesModel", "isParticle", "(I)Z"⟩, 18) := ⟨⟨by decide +kernel, by decide +kernel⟩, List.mem_of_getElem? (i := 627) (by decide +kernel), List.mem_of_getElem? (i := 709) (by decide +kernel), List.mem_of_getElem? (i := 710) (by decide +kernel)⟩
def lw_privs_1 : List (MethodName × Nat) := [(⟨"ParticleLines$State", "startAnew", "(III)V"⟩, 7), (⟨"ParticleLines", "keepDraftUnlessError", "(I)I"⟩, 8), (⟨"ParticleLines$Choice", "chooseByOffset", "(LParticleLines$Weights;I)V"⟩, 3), (⟨"ParticleLines$Choice", "chooseByNoises", "(LParticleLines$Weights;)V"⟩, 3), (⟨"ParticleLines$Choice", "chooseByShares", "(LParticleLines$Weights;)V"⟩, 3), (⟨"ParticleLines$Choice", "restsAheadOf", "(IJ)I"⟩, 3), (⟨"ParticleLines$Lineage", "isFirstAtItsPlace", "(II)Z"⟩, 8), (⟨"ParticleLines$Script", "readOrder", "()Z"⟩, 10), (⟨"ParticleLines$Script", "here", "()I"⟩, 10), (⟨"ParticleLines$Script", "readNumbers", "()Z"⟩, 10), (⟨"ParticleLines$Script", "pass", "(C)Z"⟩, 10), (⟨"ParticleLines$Script", "isDigitHere", "()Z"⟩, 10), (⟨"ParticleLines$Script", "readNumber", "()I"⟩, 10), (⟨"ParticleLinesModel", "lays", "(III)V"⟩, 18), (⟨"ParticleLinesModel", "changes", "()V"⟩, 18), (⟨"ParticleLinesModel", "isParticle", "(I)Z"⟩, 18)]
theorem lw_r1 : ∀ q ∈ lw_privs_1, lw_okq q := List.forall_mem_cons.mpr ⟨lw_p0, List.forall_mem_cons.mpr ⟨lw_p1, List.forall_mem_cons.mpr ⟨lw_p2, List.forall_mem_cons.mpr ⟨lw_p3, List.forall_mem_cons.mpr ⟨lw_p4, List.forall_mem_cons.mpr ⟨lw_p5, List.forall_mem_cons.mpr ⟨lw_p6, List.forall_mem_cons.mpr ⟨lw_p7, List.forall_mem_cons.mpr ⟨lw_p8, List.forall_mem_cons.mpr ⟨lw_p9, List.forall_mem_cons.mpr ⟨lw_p10, List.forall_mem_cons.mpr ⟨lw_p11, List.forall_mem_cons.mpr ⟨lw_p12, List.forall_mem_cons.mpr ⟨lw_p13, List.forall_mem_cons.mpr ⟨lw_p14, List.forall_mem_cons.mpr ⟨lw_p15, fun _ h => absurd h List.not_mem_nil⟩⟩⟩⟩⟩⟩⟩⟩⟩⟩⟩⟩⟩⟩⟩⟩
theorem lw_p16 : lw_okq (⟨"ParticleLinesModel", "sum", "()I"⟩, 18) := ⟨⟨by decide +kernel, by decide +kernel⟩, List.mem_of_getElem? (i := 627) (by decide +kernel), List.mem_of_getElem? (i := 714) (by decide +kernel), List.mem_of_getElem? (i := 715) (by decide +kernel)⟩
theorem lw_p17 : lw_okq (⟨"ParticleLinesModel", "divides", "()I"⟩, 18) := ⟨⟨by decide +kernel, by decide +kernel⟩, List.mem_of_getElem? (i := 627) (by decide +kernel), List.mem_of_getElem? (i := 719) (by decide +kernel), List.mem_of_getElem? (i := 720) (by decide +kernel)⟩
theorem lw_p18 : lw_okq (⟨"ParticleLinesModel", "follows", "(IIII)I"⟩, 18) := ⟨⟨by decide +kernel, by decide +kernel⟩, List.mem_of_getElem? (i := 627) (by decide +kernel), List.mem_of_getElem? (i := 731) (by decide +kernel), List.mem_of_getElem? (i := 732) (by decide +kernel)⟩
theorem lw_p19 : lw_okq (⟨"ParticleLinesModel", "placeIn", "(II)I"⟩, 18) := ⟨⟨by decide +kernel, by decide +kernel⟩, List.mem_of_getElem? (i := 627) (by decide +kernel), List.mem_of_getElem? (i := 735) (by decide +kernel), List.mem_of_getElem? (i := 736) (by decide +kernel)⟩
theorem lw_p20 : lw_okq (⟨"ParticleLinesModel", "takes", "()I"⟩, 18) := ⟨⟨by decide +kernel, by decide +kernel⟩, List.mem_of_getElem? (i := 627) (by decide +kernel), List.mem_of_getElem? (i := 739) (by decide +kernel), List.mem_of_getElem? (i := 740) (by decide +kernel)⟩
theorem lw_p21 : lw_okq (⟨"ParticleLinesModel", "looks", "(II)I"⟩, 18) := ⟨⟨by decide +kernel, by decide +kernel⟩, List.mem_of_getElem? (i := 627) (by decide +kernel), List.mem_of_getElem? (i := 748) (by decide +kernel), List.mem_of_getElem? (i := 749) (by decide +kernel)⟩
theorem lw_p22 : lw_okq (⟨"ParticleLinesModel", "latest", "()I"⟩, 18) := ⟨⟨by decide +kernel, by decide +kernel⟩, List.mem_of_getElem? (i := 627) (by decide +kernel), List.mem_of_getElem? (i := 752) (by decide +kernel), List.mem_of_getElem? (i := 753) (by decide +kernel)⟩
theorem lw_p23 : lw_okq (⟨"ParticleLinesModel", "effective", "()I"⟩, 18) := ⟨⟨by decide +kernel, by decide +kernel⟩, List.mem_of_getElem? (i := 627) (by decide +kernel), List.mem_of_getElem? (i := 756) (by decide +kernel), List.mem_of_getElem? (i := 757) (by decide +kernel)⟩
theorem lw_p24 : lw_okq (⟨"ParticleLinesModel", "resamples", "()V"⟩, 18) := ⟨⟨by decide +kernel, by decide +kernel⟩, List.mem_of_getElem? (i := 627) (by decide +kernel), List.mem_of_getElem? (i := 760) (by decide +kernel), List.mem_of_getElem? (i := 761) (by decide +kernel)⟩
theorem lw_p25 : lw_okq (⟨"ParticleLinesModel", "chooses", "(I)V"⟩, 18) := ⟨⟨by decide +kernel, by decide +kernel⟩, List.mem_of_getElem? (i := 627) (by decide +kernel), List.mem_of_getElem? (i := 764) (by decide +kernel), List.mem_of_getElem? (i := 765) (by decide +kernel)⟩
theorem lw_p26 : lw_okq (⟨"ParticleLinesModel", "byTimes", "()V"⟩, 18) := ⟨⟨by decide +kernel, by decide +kernel⟩, List.mem_of_getElem? (i := 627) (by decide +kernel), List.mem_of_getElem? (i := 768) (by decide +kernel), List.mem_of_getElem? (i := 769) (by decide +kernel)⟩
theorem lw_p27 : lw_okq (⟨"ParticleLinesModel", "byPoints", "(I)V"⟩, 18) := ⟨⟨by decide +kernel, by decide +kernel⟩, List.mem_of_getElem? (i := 627) (by decide +kernel), List.mem_of_getElem? (i := 773) (by decide +kernel), List.mem_of_getElem? (i := 774) (by decide +kernel)⟩
theorem lw_p28 : lw_okq (⟨"ParticleLinesModel", "unlike", "(II)I"⟩, 18) := ⟨⟨by decide +kernel, by decide +kernel⟩, List.mem_of_getElem? (i := 627) (by decide +kernel), List.mem_of_getElem? (i := 782) (by decide +kernel), List.mem_of_getElem? (i := 783) (by decide +kernel)⟩
theorem lw_p29 : lw_okq (⟨"ParticleLinesModel", "likePlaces", "(I)I"⟩, 18) := ⟨⟨by decide +kernel, by decide +kernel⟩, List.mem_of_getElem? (i := 627) (by decide +kernel), List.mem_of_getElem? (i := 794) (by decide +kernel), List.mem_of_getElem? (i := 795) (by decide +kernel)⟩
theorem lw_p30 : lw_okq (⟨"ParticleLinesModel", "rank", "(I)I"⟩, 18) := ⟨⟨by decide +kernel, by decide +kernel⟩, List.mem_of_getElem? (i := 627) (by decide +kernel), List.mem_of_getElem? (i := 801) (by decide +kernel), List.mem_of_getElem? (i := 802) (by decide +kernel)⟩
theorem lw_p31 : lw_okq (⟨"ParticleLinesModel", "isGeneration", "(I)Z"⟩, 18) := ⟨⟨by decide +kernel, by decide +kernel⟩, List.mem_of_getElem? (i := 627) (by decide +kernel), List.mem_of_getElem? (i := 809) (by decide +kernel), List.mem_of_getElem? (i := 810) (by decide +kernel)⟩
def lw_privs_2 : List (MethodName × Nat) := [(⟨"ParticleLinesModel", "sum", "()I"⟩, 18), (⟨"ParticleLinesModel", "divides", "()I"⟩, 18), (⟨"ParticleLinesModel", "follows", "(IIII)I"⟩, 18), (⟨"ParticleLinesModel", "placeIn", "(II)I"⟩, 18), (⟨"ParticleLinesModel", "takes", "()I"⟩, 18), (⟨"ParticleLinesModel", "looks", "(II)I"⟩, 18), (⟨"ParticleLinesModel", "latest", "()I"⟩, 18), (⟨"ParticleLinesModel", "effective", "()I"⟩, 18), (⟨"ParticleLinesModel", "resamples", "()V"⟩, 18), (⟨"ParticleLinesModel", "chooses", "(I)V"⟩, 18), (⟨"ParticleLinesModel", "byTimes", "()V"⟩, 18), (⟨"ParticleLinesModel", "byPoints", "(I)V"⟩, 18), (⟨"ParticleLinesModel", "unlike", "(II)I"⟩, 18), (⟨"ParticleLinesModel", "likePlaces", "(I)I"⟩, 18), (⟨"ParticleLinesModel", "rank", "(I)I"⟩, 18), (⟨"ParticleLinesModel", "isGeneration", "(I)Z"⟩, 18)]
theorem lw_r2 : ∀ q ∈ lw_privs_2, lw_okq q := List.forall_mem_cons.mpr ⟨lw_p16, List.forall_mem_cons.mpr ⟨lw_p17, List.forall_mem_cons.mpr ⟨lw_p18, List.forall_mem_cons.mpr ⟨lw_p19, List.forall_mem_cons.mpr ⟨lw_p20, List.forall_mem_cons.mpr ⟨lw_p21, List.forall_mem_cons.mpr ⟨lw_p22, List.forall_mem_cons.mpr ⟨lw_p23, List.forall_mem_cons.mpr ⟨lw_p24, List.forall_mem_cons.mpr ⟨lw_p25, List.forall_mem_cons.mpr ⟨lw_p26, List.forall_mem_cons.mpr ⟨lw_p27, List.forall_mem_cons.mpr ⟨lw_p28, List.forall_mem_cons.mpr ⟨lw_p29, List.forall_mem_cons.mpr ⟨lw_p30, List.forall_mem_cons.mpr ⟨lw_p31, fun _ h => absurd h List.not_mem_nil⟩⟩⟩⟩⟩⟩⟩⟩⟩⟩⟩⟩⟩⟩⟩⟩
theorem lw_p32 : lw_okq (⟨"ParticleLinesModel", "alive", "(I)I"⟩, 18) := ⟨⟨by decide +kernel, by decide +kernel⟩, List.mem_of_getElem? (i := 627) (by decide +kernel), List.mem_of_getElem? (i := 813) (by decide +kernel), List.mem_of_getElem? (i := 814) (by decide +kernel)⟩
theorem lw_p33 : lw_okq (⟨"ParticleLinesModel", "up", "(II)I"⟩, 18) := ⟨⟨by decide +kernel, by decide +kernel⟩, List.mem_of_getElem? (i := 627) (by decide +kernel), List.mem_of_getElem? (i := 817) (by decide +kernel), List.mem_of_getElem? (i := 818) (by decide +kernel)⟩
theorem lw_p34 : lw_okq (⟨"ParticleLinesModel", "meeting", "(IIZ)I"⟩, 18) := ⟨⟨by decide +kernel, by decide +kernel⟩, List.mem_of_getElem? (i := 627) (by decide +kernel), List.mem_of_getElem? (i := 829) (by decide +kernel), List.mem_of_getElem? (i := 830) (by decide +kernel)⟩
theorem lw_p35 : lw_okq (⟨"ParticleLinesModel", "zeros", "()I"⟩, 18) := ⟨⟨by decide +kernel, by decide +kernel⟩, List.mem_of_getElem? (i := 627) (by decide +kernel), List.mem_of_getElem? (i := 853) (by decide +kernel), List.mem_of_getElem? (i := 854) (by decide +kernel)⟩
theorem lw_p36 : lw_okq (⟨"ParticleLinesModel", "plays", "()Z"⟩, 18) := ⟨⟨by decide +kernel, by decide +kernel⟩, List.mem_of_getElem? (i := 627) (by decide +kernel), List.mem_of_getElem? (i := 876) (by decide +kernel), List.mem_of_getElem? (i := 877) (by decide +kernel)⟩
theorem lw_p37 : lw_okq (⟨"ParticleLinesModel", "reads", "()Z"⟩, 18) := ⟨⟨by decide +kernel, by decide +kernel⟩, List.mem_of_getElem? (i := 627) (by decide +kernel), List.mem_of_getElem? (i := 880) (by decide +kernel), List.mem_of_getElem? (i := 881) (by decide +kernel)⟩
theorem lw_p38 : lw_okq (⟨"ParticleLinesModel", "isAt", "(II)Z"⟩, 18) := ⟨⟨by decide +kernel, by decide +kernel⟩, List.mem_of_getElem? (i := 627) (by decide +kernel), List.mem_of_getElem? (i := 884) (by decide +kernel), List.mem_of_getElem? (i := 885) (by decide +kernel)⟩
theorem lw_p39 : lw_okq (⟨"ParticleLinesModel", "passes", "(I)Z"⟩, 18) := ⟨⟨by decide +kernel, by decide +kernel⟩, List.mem_of_getElem? (i := 627) (by decide +kernel), List.mem_of_getElem? (i := 888) (by decide +kernel), List.mem_of_getElem? (i := 889) (by decide +kernel)⟩
theorem lw_p40 : lw_okq (⟨"ParticleLinesModel", "number", "(I)Z"⟩, 18) := ⟨⟨by decide +kernel, by decide +kernel⟩, List.mem_of_getElem? (i := 627) (by decide +kernel), List.mem_of_getElem? (i := 892) (by decide +kernel), List.mem_of_getElem? (i := 893) (by decide +kernel)⟩
theorem lw_p41 : lw_okq (⟨"ParticleLinesModel", "calls", "()I"⟩, 18) := ⟨⟨by decide +kernel, by decide +kernel⟩, List.mem_of_getElem? (i := 627) (by decide +kernel), List.mem_of_getElem? (i := 896) (by decide +kernel), List.mem_of_getElem? (i := 897) (by decide +kernel)⟩
def lw_privs_3 : List (MethodName × Nat) := [(⟨"ParticleLinesModel", "alive", "(I)I"⟩, 18), (⟨"ParticleLinesModel", "up", "(II)I"⟩, 18), (⟨"ParticleLinesModel", "meeting", "(IIZ)I"⟩, 18), (⟨"ParticleLinesModel", "zeros", "()I"⟩, 18), (⟨"ParticleLinesModel", "plays", "()Z"⟩, 18), (⟨"ParticleLinesModel", "reads", "()Z"⟩, 18), (⟨"ParticleLinesModel", "isAt", "(II)Z"⟩, 18), (⟨"ParticleLinesModel", "passes", "(I)Z"⟩, 18), (⟨"ParticleLinesModel", "number", "(I)Z"⟩, 18), (⟨"ParticleLinesModel", "calls", "()I"⟩, 18)]
theorem lw_r3 : ∀ q ∈ lw_privs_3, lw_okq q := List.forall_mem_cons.mpr ⟨lw_p32, List.forall_mem_cons.mpr ⟨lw_p33, List.forall_mem_cons.mpr ⟨lw_p34, List.forall_mem_cons.mpr ⟨lw_p35, List.forall_mem_cons.mpr ⟨lw_p36, List.forall_mem_cons.mpr ⟨lw_p37, List.forall_mem_cons.mpr ⟨lw_p38, List.forall_mem_cons.mpr ⟨lw_p39, List.forall_mem_cons.mpr ⟨lw_p40, List.forall_mem_cons.mpr ⟨lw_p41, fun _ h => absurd h List.not_mem_nil⟩⟩⟩⟩⟩⟩⟩⟩⟩⟩
def lw_privs : List (MethodName × Nat) := lw_privs_1 ++ (lw_privs_2 ++ (lw_privs_3))
def lw_tbl : List Cond := k2_sels lw_privs ++ tables_1
theorem lw_privs_ok : ∀ q ∈ lw_privs, lw_okq q := by
  show ∀ q ∈ lw_privs_1 ++ (lw_privs_2 ++ (lw_privs_3)), lw_okq q
  exact List.forall_mem_append.mpr ⟨lw_r1, List.forall_mem_append.mpr ⟨lw_r2, lw_r3⟩⟩
-- ===== end of PART A; then your names; then what follows =====
/-! ===== BEGIN words of one list among another's, by their places ===== -/
theorem goodIn_r {big : List Cond} (ws : List Cond) (ps : List Nat) (hp : ws = ps.filterMap (fun i => big[i]?)) (h : ws.all goodWord = true) : GoodIn big ws := by
  intro w hw
  have h1 := List.all_eq_true.mp h w hw
  rw [hp] at hw
  obtain ⟨i, -, hi⟩ := List.mem_filterMap.mp hw
  have hm : w ∈ big := by first | exact List.mem_of_getElem? hi | exact List.getElem?_mem hi
  exact ⟨hm, good_of_word h1⟩
theorem goodIn_app {big a b : List Cond} (ha : GoodIn big a) (hb : GoodIn big b) : GoodIn big (a ++ b) := fun w h => (List.mem_append.mp h).elim (ha w) (hb w)
theorem goodIn_ca {big a b : List Cond} {c : Cond} (ha : GoodIn big (c :: a)) (hb : GoodIn big b) : GoodIn big (c :: (a ++ b)) := fun w h => (List.mem_cons.mp h).elim (fun e => ha w (List.mem_cons.mpr (Or.inl e))) (fun h => (List.mem_append.mp h).elim (fun h => ha w (List.mem_cons.mpr (Or.inr h))) (hb w))
theorem goodIn_sub {big ws : List Cond} (hm : ∀ w ∈ ws, w ∈ big) (h : ws.all goodWord = true) : GoodIn big ws := fun w hw => ⟨hm w hw, good_of_word (List.all_eq_true.mp h w hw)⟩
/-! ===== END ===== -/

/-! ===== BEGIN printed: names, fields, word lists, decode rows ===== -/
def RX0 : String := "ParticleLines$Choice"
def TX0 : u_T := fun k => match k with
  | 0 => ("ParticleLines$Choice", "ancestors", "[I", true)
  | 1 => ("ParticleLines$Choice", "rests", "[J", true)
  | _ => ("ParticleLines$Choice", "noise", "I", false)
def tyX0 : Nat → FieldType := fun k => match k with
  | 0 => .array .int
  | 1 => .array .long
  | _ => .int
abbrev wsX00 : List Cond := u_ws RX0 TX0 3
theorem nmX0 : ∀ a, a < 3 → ∀ b, b < 3 → a ≠ b → (TX0 a).2.1 ≠ (TX0 b).2.1 := by decide +kernel
theorem tyX0_ok : ∀ k, k < 3 → parseFieldDescriptor (TX0 k).2.2.1 = some (tyX0 k) := by decide +kernel
abbrev cX0_init : ByteArray := prog_2_method_1_code
def yX0_init : MethodName := ⟨RX0, "<init>", "()V"⟩
abbrev cX0_chosenFor : ByteArray := prog_2_method_2_code
def yX0_chosenFor : MethodName := ⟨RX0, "chosenFor", "(I)I"⟩
abbrev cX0_noise : ByteArray := prog_2_method_3_code
def yX0_noise : MethodName := ⟨RX0, "noise", "()I"⟩
abbrev cX0_choose : ByteArray := prog_2_method_4_code
def yX0_choose : MethodName := ⟨RX0, "choose", "(ILParticleLines$Weights;II)V"⟩
abbrev cX0_chooseByOffset : ByteArray := prog_2_method_5_code
def yX0_chooseByOffset : MethodName := ⟨RX0, "chooseByOffset", "(LParticleLines$Weights;I)V"⟩
abbrev cX0_chooseByNoises : ByteArray := prog_2_method_6_code
def yX0_chooseByNoises : MethodName := ⟨RX0, "chooseByNoises", "(LParticleLines$Weights;)V"⟩
abbrev cX0_chooseByShares : ByteArray := prog_2_method_7_code
def yX0_chooseByShares : MethodName := ⟨RX0, "chooseByShares", "(LParticleLines$Weights;)V"⟩
abbrev cX0_restsAheadOf : ByteArray := prog_2_method_8_code
def yX0_restsAheadOf : MethodName := ⟨RX0, "restsAheadOf", "(IJ)I"⟩
def RX1 : String := "ParticleLines$Lineage"
def TX1 : u_T := fun k => match k with
  | 0 => ("ParticleLines$Lineage", "places", "LParticleLines$Row;", true)
  | 1 => ("ParticleLines$Lineage", "parents", "LParticleLines$Row;", true)
  | 2 => ("ParticleLines$Lineage", "origins", "LParticleLines$Row;", true)
  | 3 => ("ParticleLines$Lineage", "drifts", "LParticleLines$Row;", true)
  | 4 => ("ParticleLines$Lineage", "spreads", "LParticleLines$Row;", true)
  | 5 => ("ParticleLines$Lineage", "schemes", "LParticleLines$Row;", true)
  | 6 => ("ParticleLines$Lineage", "many", "I", false)
  | _ => ("ParticleLines$Lineage", "generations", "I", false)
def tyX1 : Nat → FieldType := fun k => match k with
  | 0 => .object "ParticleLines$Row"
  | 1 => .object "ParticleLines$Row"
  | 2 => .object "ParticleLines$Row"
  | 3 => .object "ParticleLines$Row"
  | 4 => .object "ParticleLines$Row"
  | 5 => .object "ParticleLines$Row"
  | 6 => .int
  | _ => .int
abbrev wsX10 : List Cond := u_ws RX1 TX1 8
theorem nmX1 : ∀ a, a < 8 → ∀ b, b < 8 → a ≠ b → (TX1 a).2.1 ≠ (TX1 b).2.1 := by decide +kernel
theorem tyX1_ok : ∀ k, k < 8 → parseFieldDescriptor (TX1 k).2.2.1 = some (tyX1 k) := by decide +kernel
abbrev cX1_init : ByteArray := prog_3_method_1_code
def yX1_init : MethodName := ⟨RX1, "<init>", "()V"⟩
abbrev cX1_copyLineage : ByteArray := prog_3_method_2_code
def yX1_copyLineage : MethodName := ⟨RX1, "copyLineage", "(LParticleLines$Lineage;)V"⟩
abbrev cX1_startWith : ByteArray := prog_3_method_3_code
def yX1_startWith : MethodName := ⟨RX1, "startWith", "(III)V"⟩
abbrev cX1_addMoved : ByteArray := prog_3_method_4_code
def yX1_addMoved : MethodName := ⟨RX1, "addMoved", "(II)V"⟩
abbrev cX1_addResampled : ByteArray := prog_3_method_5_code
def yX1_addResampled : MethodName := ⟨RX1, "addResampled", "(I)V"⟩
abbrev cX1_putParticle : ByteArray := prog_3_method_6_code
def yX1_putParticle : MethodName := ⟨RX1, "putParticle", "(III)V"⟩
abbrev cX1_many : ByteArray := prog_3_method_7_code
def yX1_many : MethodName := ⟨RX1, "many", "()I"⟩
abbrev cX1_generations : ByteArray := prog_3_method_8_code
def yX1_generations : MethodName := ⟨RX1, "generations", "()I"⟩
abbrev cX1_latest : ByteArray := prog_3_method_9_code
def yX1_latest : MethodName := ⟨RX1, "latest", "()I"⟩
abbrev cX1_placeIn : ByteArray := prog_3_method_10_code
def yX1_placeIn : MethodName := ⟨RX1, "placeIn", "(II)I"⟩
abbrev cX1_parentIn : ByteArray := prog_3_method_11_code
def yX1_parentIn : MethodName := ⟨RX1, "parentIn", "(II)I"⟩
abbrev cX1_originOf : ByteArray := prog_3_method_12_code
def yX1_originOf : MethodName := ⟨RX1, "originOf", "(I)I"⟩
abbrev cX1_driftOf : ByteArray := prog_3_method_13_code
def yX1_driftOf : MethodName := ⟨RX1, "driftOf", "(I)I"⟩
abbrev cX1_spreadOf : ByteArray := prog_3_method_14_code
def yX1_spreadOf : MethodName := ⟨RX1, "spreadOf", "(I)I"⟩
abbrev cX1_schemeOf : ByteArray := prog_3_method_15_code
def yX1_schemeOf : MethodName := ⟨RX1, "schemeOf", "(I)I"⟩
abbrev cX1_ancestorIn : ByteArray := prog_3_method_16_code
def yX1_ancestorIn : MethodName := ⟨RX1, "ancestorIn", "(II)I"⟩
abbrev cX1_howManyAreAncestors : ByteArray := prog_3_method_17_code
def yX1_howManyAreAncestors : MethodName := ⟨RX1, "howManyAreAncestors", "(I)I"⟩
abbrev cX1_howManyAt : ByteArray := prog_3_method_18_code
def yX1_howManyAt : MethodName := ⟨RX1, "howManyAt", "(II)I"⟩
abbrev cX1_howManyUnlikePlaces : ByteArray := prog_3_method_19_code
def yX1_howManyUnlikePlaces : MethodName := ⟨RX1, "howManyUnlikePlaces", "(I)I"⟩
abbrev cX1_isFirstAtItsPlace : ByteArray := prog_3_method_20_code
def yX1_isFirstAtItsPlace : MethodName := ⟨RX1, "isFirstAtItsPlace", "(II)Z"⟩
abbrev cX1_meetingOf : ByteArray := prog_3_method_21_code
def yX1_meetingOf : MethodName := ⟨RX1, "meetingOf", "(II)I"⟩
def RX2 : String := "ParticleLines$Row"
def TX2 : u_T := fun k => match k with
  | _ => ("ParticleLines$Row", "numbers", "[I", true)
def tyX2 : Nat → FieldType := fun k => match k with
  | _ => .array .int
abbrev wsX20 : List Cond := u_ws RX2 TX2 1
theorem nmX2 : ∀ a, a < 1 → ∀ b, b < 1 → a ≠ b → (TX2 a).2.1 ≠ (TX2 b).2.1 := by decide +kernel
theorem tyX2_ok : ∀ k, k < 1 → parseFieldDescriptor (TX2 k).2.2.1 = some (tyX2 k) := by decide +kernel
abbrev cX2_init : ByteArray := prog_4_method_1_code
def yX2_init : MethodName := ⟨RX2, "<init>", "(I)V"⟩
abbrev cX2_at : ByteArray := prog_4_method_2_code
def yX2_at : MethodName := ⟨RX2, "at", "(I)I"⟩
abbrev cX2_put : ByteArray := prog_4_method_3_code
def yX2_put : MethodName := ⟨RX2, "put", "(II)V"⟩
abbrev cX2_copyRow : ByteArray := prog_4_method_4_code
def yX2_copyRow : MethodName := ⟨RX2, "copyRow", "(LParticleLines$Row;)V"⟩
def RX3 : String := "ParticleLines$Script"
def TX3 : u_T := fun k => match k with
  | 0 => ("ParticleLines$Script", "characters", "[I", true)
  | 1 => ("ParticleLines$Script", "length", "I", false)
  | 2 => ("ParticleLines$Script", "start", "I", false)
  | 3 => ("ParticleLines$Script", "position", "I", false)
  | 4 => ("ParticleLines$Script", "kind", "I", false)
  | 5 => ("ParticleLines$Script", "first", "I", false)
  | 6 => ("ParticleLines$Script", "second", "I", false)
  | 7 => ("ParticleLines$Script", "ordersDone", "I", false)
  | 8 => ("ParticleLines$Script", "reason", "I", false)
  | _ => ("ParticleLines$Script", "cause", "I", false)
def tyX3 : Nat → FieldType := fun k => match k with
  | 0 => .array .int
  | 1 => .int
  | 2 => .int
  | 3 => .int
  | 4 => .int
  | 5 => .int
  | 6 => .int
  | 7 => .int
  | 8 => .int
  | _ => .int
abbrev wsX30 : List Cond := u_ws RX3 TX3 10
theorem nmX3 : ∀ a, a < 10 → ∀ b, b < 10 → a ≠ b → (TX3 a).2.1 ≠ (TX3 b).2.1 := by decide +kernel
theorem tyX3_ok : ∀ k, k < 10 → parseFieldDescriptor (TX3 k).2.2.1 = some (tyX3 k) := by decide +kernel
abbrev cX3_init : ByteArray := prog_5_method_1_code
def yX3_init : MethodName := ⟨RX3, "<init>", "()V"⟩
abbrev cX3_length : ByteArray := prog_5_method_2_code
def yX3_length : MethodName := ⟨RX3, "length", "()I"⟩
abbrev cX3_append : ByteArray := prog_5_method_3_code
def yX3_append : MethodName := ⟨RX3, "append", "(I)I"⟩
abbrev cX3_empty : ByteArray := prog_5_method_4_code
def yX3_empty : MethodName := ⟨RX3, "empty", "()I"⟩
abbrev cX3_ordersDone : ByteArray := prog_5_method_5_code
def yX3_ordersDone : MethodName := ⟨RX3, "ordersDone", "()I"⟩
abbrev cX3_tellOfFault : ByteArray := prog_5_method_6_code
def yX3_tellOfFault : MethodName := ⟨RX3, "tellOfFault", "(I)I"⟩
abbrev cX3_perform : ByteArray := prog_5_method_7_code
def yX3_perform : MethodName := ⟨RX3, "perform", "(LParticleLines$State;)Z"⟩
abbrev cX3_readOrder : ByteArray := prog_5_method_8_code
def yX3_readOrder : MethodName := ⟨RX3, "readOrder", "()Z"⟩
abbrev cX3_readNumbers : ByteArray := prog_5_method_9_code
def yX3_readNumbers : MethodName := ⟨RX3, "readNumbers", "()Z"⟩
abbrev cX3_readNumber : ByteArray := prog_5_method_10_code
def yX3_readNumber : MethodName := ⟨RX3, "readNumber", "()I"⟩
abbrev cX3_isDigitHere : ByteArray := prog_5_method_11_code
def yX3_isDigitHere : MethodName := ⟨RX3, "isDigitHere", "()Z"⟩
abbrev cX3_pass : ByteArray := prog_5_method_12_code
def yX3_pass : MethodName := ⟨RX3, "pass", "(C)Z"⟩
abbrev cX3_here : ByteArray := prog_5_method_13_code
def yX3_here : MethodName := ⟨RX3, "here", "()I"⟩
def RX4 : String := "ParticleLines$State"
def TX4 : u_T := fun k => match k with
  | 0 => ("ParticleLines$State", "lineage", "LParticleLines$Lineage;", true)
  | 1 => ("ParticleLines$State", "weights", "LParticleLines$Weights;", true)
  | 2 => ("ParticleLines$State", "settings", "LParticleLines$Row;", true)
  | 3 => ("ParticleLines$State", "choice", "LParticleLines$Choice;", true)
  | 4 => ("ParticleLines$State", "noise", "I", false)
  | 5 => ("ParticleLines$State", "observations", "I", false)
  | _ => ("ParticleLines$State", "resamplings", "I", false)
def tyX4 : Nat → FieldType := fun k => match k with
  | 0 => .object "ParticleLines$Lineage"
  | 1 => .object "ParticleLines$Weights"
  | 2 => .object "ParticleLines$Row"
  | 3 => .object "ParticleLines$Choice"
  | 4 => .int
  | 5 => .int
  | _ => .int
abbrev wsX40 : List Cond := u_ws RX4 TX4 7
theorem nmX4 : ∀ a, a < 7 → ∀ b, b < 7 → a ≠ b → (TX4 a).2.1 ≠ (TX4 b).2.1 := by decide +kernel
theorem tyX4_ok : ∀ k, k < 7 → parseFieldDescriptor (TX4 k).2.2.1 = some (tyX4 k) := by decide +kernel
abbrev cX4_init : ByteArray := prog_6_method_1_code
def yX4_init : MethodName := ⟨RX4, "<init>", "(LParticleLines$Choice;)V"⟩
abbrev cX4_copyState : ByteArray := prog_6_method_2_code
def yX4_copyState : MethodName := ⟨RX4, "copyState", "(LParticleLines$State;)V"⟩
abbrev cX4_startAnew : ByteArray := prog_6_method_3_code
def yX4_startAnew : MethodName := ⟨RX4, "startAnew", "(III)V"⟩
abbrev cX4_beginAnew : ByteArray := prog_6_method_4_code
def yX4_beginAnew : MethodName := ⟨RX4, "beginAnew", "(III)I"⟩
abbrev cX4_changeWeight : ByteArray := prog_6_method_5_code
def yX4_changeWeight : MethodName := ⟨RX4, "changeWeight", "(II)I"⟩
abbrev cX4_shift : ByteArray := prog_6_method_6_code
def yX4_shift : MethodName := ⟨RX4, "shift", "(II)I"⟩
abbrev cX4_look : ByteArray := prog_6_method_7_code
def yX4_look : MethodName := ⟨RX4, "look", "(II)I"⟩
abbrev cX4_renew : ByteArray := prog_6_method_8_code
def yX4_renew : MethodName := ⟨RX4, "renew", "()I"⟩
abbrev cX4_putSetting : ByteArray := prog_6_method_9_code
def yX4_putSetting : MethodName := ⟨RX4, "putSetting", "(II)I"⟩
abbrev cX4_greatestSetting : ByteArray := prog_6_method_10_code
def yX4_greatestSetting : MethodName := ⟨RX4, "greatestSetting", "(I)I"⟩
abbrev cX4_hasParticle : ByteArray := prog_6_method_11_code
def yX4_hasParticle : MethodName := ⟨RX4, "hasParticle", "(I)Z"⟩
abbrev cX4_hasGeneration : ByteArray := prog_6_method_12_code
def yX4_hasGeneration : MethodName := ⟨RX4, "hasGeneration", "(I)Z"⟩
abbrev cX4_tellOfParticle : ByteArray := prog_6_method_13_code
def yX4_tellOfParticle : MethodName := ⟨RX4, "tellOfParticle", "(II)I"⟩
abbrev cX4_tellOfGeneration : ByteArray := prog_6_method_14_code
def yX4_tellOfGeneration : MethodName := ⟨RX4, "tellOfGeneration", "(II)I"⟩
abbrev cX4_tellOfAncestor : ByteArray := prog_6_method_15_code
def yX4_tellOfAncestor : MethodName := ⟨RX4, "tellOfAncestor", "(III)I"⟩
abbrev cX4_meetingOfTwo : ByteArray := prog_6_method_16_code
def yX4_meetingOfTwo : MethodName := ⟨RX4, "meetingOfTwo", "(II)I"⟩
abbrev cX4_meetingOfAll : ByteArray := prog_6_method_17_code
def yX4_meetingOfAll : MethodName := ⟨RX4, "meetingOfAll", "()I"⟩
abbrev cX4_partOfMean : ByteArray := prog_6_method_18_code
def yX4_partOfMean : MethodName := ⟨RX4, "partOfMean", "(II)I"⟩
abbrev cX4_partOfShare : ByteArray := prog_6_method_19_code
def yX4_partOfShare : MethodName := ⟨RX4, "partOfShare", "(IIII)I"⟩
abbrev cX4_chosenBy : ByteArray := prog_6_method_20_code
def yX4_chosenBy : MethodName := ⟨RX4, "chosenBy", "(II)I"⟩
abbrev cX4_number : ByteArray := prog_6_method_21_code
def yX4_number : MethodName := ⟨RX4, "number", "(I)I"⟩
def RX5 : String := "ParticleLines$Weights"
def TX5 : u_T := fun k => match k with
  | 0 => ("ParticleLines$Weights", "weights", "[I", true)
  | _ => ("ParticleLines$Weights", "many", "I", false)
def tyX5 : Nat → FieldType := fun k => match k with
  | 0 => .array .int
  | _ => .int
abbrev wsX50 : List Cond := u_ws RX5 TX5 2
theorem nmX5 : ∀ a, a < 2 → ∀ b, b < 2 → a ≠ b → (TX5 a).2.1 ≠ (TX5 b).2.1 := by decide +kernel
theorem tyX5_ok : ∀ k, k < 2 → parseFieldDescriptor (TX5 k).2.2.1 = some (tyX5 k) := by decide +kernel
abbrev cX5_init : ByteArray := prog_7_method_1_code
def yX5_init : MethodName := ⟨RX5, "<init>", "()V"⟩
abbrev cX5_copyWeights : ByteArray := prog_7_method_2_code
def yX5_copyWeights : MethodName := ⟨RX5, "copyWeights", "(LParticleLines$Weights;)V"⟩
abbrev cX5_makeEqual : ByteArray := prog_7_method_3_code
def yX5_makeEqual : MethodName := ⟨RX5, "makeEqual", "(I)V"⟩
abbrev cX5_weightOf : ByteArray := prog_7_method_4_code
def yX5_weightOf : MethodName := ⟨RX5, "weightOf", "(I)I"⟩
abbrev cX5_putWeight : ByteArray := prog_7_method_5_code
def yX5_putWeight : MethodName := ⟨RX5, "putWeight", "(II)V"⟩
abbrev cX5_reduce : ByteArray := prog_7_method_6_code
def yX5_reduce : MethodName := ⟨RX5, "reduce", "()Z"⟩
abbrev cX5_greatest : ByteArray := prog_7_method_7_code
def yX5_greatest : MethodName := ⟨RX5, "greatest", "()I"⟩
abbrev cX5_sum : ByteArray := prog_7_method_8_code
def yX5_sum : MethodName := ⟨RX5, "sum", "()J"⟩
abbrev cX5_effectiveCount : ByteArray := prog_7_method_9_code
def yX5_effectiveCount : MethodName := ⟨RX5, "effectiveCount", "()I"⟩
abbrev cX5_howManyAreZero : ByteArray := prog_7_method_10_code
def yX5_howManyAreZero : MethodName := ⟨RX5, "howManyAreZero", "()I"⟩
abbrev cX5_howManyAheadOf : ByteArray := prog_7_method_11_code
def yX5_howManyAheadOf : MethodName := ⟨RX5, "howManyAheadOf", "(I)I"⟩
abbrev cX5_firstAbove : ByteArray := prog_7_method_12_code
def yX5_firstAbove : MethodName := ⟨RX5, "firstAbove", "(J)I"⟩
def RX6 : String := "ParticleLines"
def TX6 : u_T := fun k => match k with
  | 0 => ("ParticleLines", "present", "LParticleLines$State;", false)
  | 1 => ("ParticleLines", "draft", "LParticleLines$State;", false)
  | 2 => ("ParticleLines", "latestPast", "LParticleLines$State;", false)
  | 3 => ("ParticleLines", "secondPast", "LParticleLines$State;", false)
  | 4 => ("ParticleLines", "thirdPast", "LParticleLines$State;", false)
  | 5 => ("ParticleLines", "oldestPast", "LParticleLines$State;", false)
  | 6 => ("ParticleLines", "recorded", "I", false)
  | _ => ("ParticleLines", "script", "LParticleLines$Script;", true)
def tyX6 : Nat → FieldType := fun k => match k with
  | 0 => .object "ParticleLines$State"
  | 1 => .object "ParticleLines$State"
  | 2 => .object "ParticleLines$State"
  | 3 => .object "ParticleLines$State"
  | 4 => .object "ParticleLines$State"
  | 5 => .object "ParticleLines$State"
  | 6 => .int
  | _ => .object "ParticleLines$Script"
abbrev wsX60 : List Cond := u_ws RX6 TX6 8
theorem nmX6 : ∀ a, a < 8 → ∀ b, b < 8 → a ≠ b → (TX6 a).2.1 ≠ (TX6 b).2.1 := by decide +kernel
theorem tyX6_ok : ∀ k, k < 8 → parseFieldDescriptor (TX6 k).2.2.1 = some (tyX6 k) := by decide +kernel
abbrev cX6_init : ByteArray := prog_1_method_1_code
def yX6_init : MethodName := ⟨RX6, "<init>", "()V"⟩
abbrev cX6_begin : ByteArray := prog_1_method_2_code
def yX6_begin : MethodName := ⟨RX6, "begin", "(III)I"⟩
abbrev cX6_weigh : ByteArray := prog_1_method_3_code
def yX6_weigh : MethodName := ⟨RX6, "weigh", "(II)I"⟩
abbrev cX6_move : ByteArray := prog_1_method_4_code
def yX6_move : MethodName := ⟨RX6, "move", "(II)I"⟩
abbrev cX6_observe : ByteArray := prog_1_method_5_code
def yX6_observe : MethodName := ⟨RX6, "observe", "(II)I"⟩
abbrev cX6_resample : ByteArray := prog_1_method_6_code
def yX6_resample : MethodName := ⟨RX6, "resample", "()I"⟩
abbrev cX6_set : ByteArray := prog_1_method_7_code
def yX6_set : MethodName := ⟨RX6, "set", "(II)I"⟩
abbrev cX6_particleOf : ByteArray := prog_1_method_8_code
def yX6_particleOf : MethodName := ⟨RX6, "particleOf", "(II)I"⟩
abbrev cX6_generationOf : ByteArray := prog_1_method_9_code
def yX6_generationOf : MethodName := ⟨RX6, "generationOf", "(II)I"⟩
abbrev cX6_ancestor : ByteArray := prog_1_method_10_code
def yX6_ancestor : MethodName := ⟨RX6, "ancestor", "(III)I"⟩
abbrev cX6_common : ByteArray := prog_1_method_11_code
def yX6_common : MethodName := ⟨RX6, "common", "(II)I"⟩
abbrev cX6_root : ByteArray := prog_1_method_12_code
def yX6_root : MethodName := ⟨RX6, "root", "()I"⟩
abbrev cX6_mean : ByteArray := prog_1_method_13_code
def yX6_mean : MethodName := ⟨RX6, "mean", "(II)I"⟩
abbrev cX6_share : ByteArray := prog_1_method_14_code
def yX6_share : MethodName := ⟨RX6, "share", "(IIII)I"⟩
abbrev cX6_would : ByteArray := prog_1_method_15_code
def yX6_would : MethodName := ⟨RX6, "would", "(II)I"⟩
abbrev cX6_count : ByteArray := prog_1_method_16_code
def yX6_count : MethodName := ⟨RX6, "count", "(I)I"⟩
abbrev cX6_undo : ByteArray := prog_1_method_17_code
def yX6_undo : MethodName := ⟨RX6, "undo", "()I"⟩
abbrev cX6_type : ByteArray := prog_1_method_18_code
def yX6_type : MethodName := ⟨RX6, "type", "(I)I"⟩
abbrev cX6_clearText : ByteArray := prog_1_method_19_code
def yX6_clearText : MethodName := ⟨RX6, "clearText", "()I"⟩
abbrev cX6_fault : ByteArray := prog_1_method_20_code
def yX6_fault : MethodName := ⟨RX6, "fault", "(I)I"⟩
abbrev cX6_play : ByteArray := prog_1_method_21_code
def yX6_play : MethodName := ⟨RX6, "play", "()I"⟩
abbrev cX6_keepDraftUnlessError : ByteArray := prog_1_method_22_code
def yX6_keepDraftUnlessError : MethodName := ⟨RX6, "keepDraftUnlessError", "(I)I"⟩
abbrev cX6_isWithin : ByteArray := prog_1_method_23_code
def yX6_isWithin : MethodName := ⟨RX6, "isWithin", "(III)Z"⟩
abbrev cX6_nearestPlace : ByteArray := prog_1_method_24_code
def yX6_nearestPlace : MethodName := ⟨RX6, "nearestPlace", "(I)I"⟩
abbrev cX6_noiseBehind : ByteArray := prog_1_method_25_code
def yX6_noiseBehind : MethodName := ⟨RX6, "noiseBehind", "(I)I"⟩
abbrev cX6_commonDivisor : ByteArray := prog_1_method_26_code
def yX6_commonDivisor : MethodName := ⟨RX6, "commonDivisor", "(JJ)J"⟩
abbrev cX6_partInLowestTerms : ByteArray := prog_1_method_27_code
def yX6_partInLowestTerms : MethodName := ⟨RX6, "partInLowestTerms", "(JJI)I"⟩
def RX7 : String := "ParticleLinesModel"
def TX7 : u_T := fun k => match k with
  | 0 => ("ParticleLinesModel", "s", "[I", true)
  | 1 => ("ParticleLinesModel", "past", "[I", true)
  | 2 => ("ParticleLinesModel", "held", "[I", true)
  | 3 => ("ParticleLinesModel", "pasts", "I", false)
  | 4 => ("ParticleLinesModel", "runs", "Z", false)
  | 5 => ("ParticleLinesModel", "text", "[I", true)
  | 6 => ("ParticleLinesModel", "typed", "I", false)
  | 7 => ("ParticleLinesModel", "chosen", "[I", true)
  | 8 => ("ParticleLinesModel", "times", "[I", true)
  | 9 => ("ParticleLinesModel", "rests", "[J", true)
  | 10 => ("ParticleLinesModel", "before", "[I", true)
  | 11 => ("ParticleLinesModel", "spot", "I", false)
  | 12 => ("ParticleLinesModel", "from", "I", false)
  | 13 => ("ParticleLinesModel", "reason", "I", false)
  | 14 => ("ParticleLinesModel", "cause", "I", false)
  | 15 => ("ParticleLinesModel", "orders", "I", false)
  | 16 => ("ParticleLinesModel", "kind", "I", false)
  | _ => ("ParticleLinesModel", "told", "[I", true)
def tyX7 : Nat → FieldType := fun k => match k with
  | 0 => .array .int
  | 1 => .array .int
  | 2 => .array .int
  | 3 => .int
  | 4 => .boolean
  | 5 => .array .int
  | 6 => .int
  | 7 => .array .int
  | 8 => .array .int
  | 9 => .array .long
  | 10 => .array .int
  | 11 => .int
  | 12 => .int
  | 13 => .int
  | 14 => .int
  | 15 => .int
  | 16 => .int
  | _ => .array .int
abbrev wsX70 : List Cond := u_ws RX7 TX7 18
theorem nmX7 : ∀ a, a < 18 → ∀ b, b < 18 → a ≠ b → (TX7 a).2.1 ≠ (TX7 b).2.1 := by decide +kernel
theorem tyX7_ok : ∀ k, k < 18 → parseFieldDescriptor (TX7 k).2.2.1 = some (tyX7 k) := by decide +kernel
abbrev cX7_init : ByteArray := prog_9_method_1_code
def yX7_init : MethodName := ⟨RX7, "<init>", "()V"⟩
abbrev cX7_in : ByteArray := prog_9_method_3_code
def yX7_in : MethodName := ⟨RX7, "in", "(III)Z"⟩
abbrev cX7_copies : ByteArray := prog_9_method_4_code
def yX7_copies : MethodName := ⟨RX7, "copies", "([I[I)V"⟩
abbrev cX7_changes : ByteArray := prog_9_method_5_code
def yX7_changes : MethodName := ⟨RX7, "changes", "()V"⟩
abbrev cX7_lays : ByteArray := prog_9_method_6_code
def yX7_lays : MethodName := ⟨RX7, "lays", "(III)V"⟩
abbrev cX7_isParticle : ByteArray := prog_9_method_7_code
def yX7_isParticle : MethodName := ⟨RX7, "isParticle", "(I)Z"⟩
abbrev cX7_isGeneration : ByteArray := prog_9_method_8_code
def yX7_isGeneration : MethodName := ⟨RX7, "isGeneration", "(I)Z"⟩
abbrev cX7_latest : ByteArray := prog_9_method_9_code
def yX7_latest : MethodName := ⟨RX7, "latest", "()I"⟩
abbrev cX7_placeIn : ByteArray := prog_9_method_10_code
def yX7_placeIn : MethodName := ⟨RX7, "placeIn", "(II)I"⟩
abbrev cX7_takes : ByteArray := prog_9_method_11_code
def yX7_takes : MethodName := ⟨RX7, "takes", "()I"⟩
abbrev cX7_divisor : ByteArray := prog_9_method_12_code
def yX7_divisor : MethodName := ⟨RX7, "divisor", "(II)I"⟩
abbrev cX7_sum : ByteArray := prog_9_method_13_code
def yX7_sum : MethodName := ⟨RX7, "sum", "()I"⟩
abbrev cX7_effective : ByteArray := prog_9_method_14_code
def yX7_effective : MethodName := ⟨RX7, "effective", "()I"⟩
abbrev cX7_divides : ByteArray := prog_9_method_15_code
def yX7_divides : MethodName := ⟨RX7, "divides", "()I"⟩
abbrev cX7_byPoints : ByteArray := prog_9_method_16_code
def yX7_byPoints : MethodName := ⟨RX7, "byPoints", "(I)V"⟩
abbrev cX7_byTimes : ByteArray := prog_9_method_17_code
def yX7_byTimes : MethodName := ⟨RX7, "byTimes", "()V"⟩
abbrev cX7_chooses : ByteArray := prog_9_method_18_code
def yX7_chooses : MethodName := ⟨RX7, "chooses", "(I)V"⟩
abbrev cX7_follows : ByteArray := prog_9_method_19_code
def yX7_follows : MethodName := ⟨RX7, "follows", "(IIII)I"⟩
abbrev cX7_resamples : ByteArray := prog_9_method_20_code
def yX7_resamples : MethodName := ⟨RX7, "resamples", "()V"⟩
abbrev cX7_begin : ByteArray := prog_9_method_21_code
def yX7_begin : MethodName := ⟨RX7, "begin", "(III)I"⟩
abbrev cX7_weigh : ByteArray := prog_9_method_22_code
def yX7_weigh : MethodName := ⟨RX7, "weigh", "(II)I"⟩
abbrev cX7_move : ByteArray := prog_9_method_23_code
def yX7_move : MethodName := ⟨RX7, "move", "(II)I"⟩
abbrev cX7_looks : ByteArray := prog_9_method_24_code
def yX7_looks : MethodName := ⟨RX7, "looks", "(II)I"⟩
abbrev cX7_observe : ByteArray := prog_9_method_25_code
def yX7_observe : MethodName := ⟨RX7, "observe", "(II)I"⟩
abbrev cX7_unlike : ByteArray := prog_9_method_26_code
def yX7_unlike : MethodName := ⟨RX7, "unlike", "(II)I"⟩
abbrev cX7_resample : ByteArray := prog_9_method_27_code
def yX7_resample : MethodName := ⟨RX7, "resample", "()I"⟩
abbrev cX7_set : ByteArray := prog_9_method_28_code
def yX7_set : MethodName := ⟨RX7, "set", "(II)I"⟩
abbrev cX7_part : ByteArray := prog_9_method_29_code
def yX7_part : MethodName := ⟨RX7, "part", "(JJI)I"⟩
abbrev cX7_likePlaces : ByteArray := prog_9_method_30_code
def yX7_likePlaces : MethodName := ⟨RX7, "likePlaces", "(I)I"⟩
abbrev cX7_rank : ByteArray := prog_9_method_31_code
def yX7_rank : MethodName := ⟨RX7, "rank", "(I)I"⟩
abbrev cX7_particleOf : ByteArray := prog_9_method_32_code
def yX7_particleOf : MethodName := ⟨RX7, "particleOf", "(II)I"⟩
abbrev cX7_up : ByteArray := prog_9_method_33_code
def yX7_up : MethodName := ⟨RX7, "up", "(II)I"⟩
abbrev cX7_alive : ByteArray := prog_9_method_34_code
def yX7_alive : MethodName := ⟨RX7, "alive", "(I)I"⟩
abbrev cX7_generationOf : ByteArray := prog_9_method_35_code
def yX7_generationOf : MethodName := ⟨RX7, "generationOf", "(II)I"⟩
abbrev cX7_ancestor : ByteArray := prog_9_method_36_code
def yX7_ancestor : MethodName := ⟨RX7, "ancestor", "(III)I"⟩
abbrev cX7_meeting : ByteArray := prog_9_method_37_code
def yX7_meeting : MethodName := ⟨RX7, "meeting", "(IIZ)I"⟩
abbrev cX7_common : ByteArray := prog_9_method_38_code
def yX7_common : MethodName := ⟨RX7, "common", "(II)I"⟩
abbrev cX7_root : ByteArray := prog_9_method_39_code
def yX7_root : MethodName := ⟨RX7, "root", "()I"⟩
abbrev cX7_mean : ByteArray := prog_9_method_40_code
def yX7_mean : MethodName := ⟨RX7, "mean", "(II)I"⟩
abbrev cX7_share : ByteArray := prog_9_method_41_code
def yX7_share : MethodName := ⟨RX7, "share", "(IIII)I"⟩
abbrev cX7_would : ByteArray := prog_9_method_42_code
def yX7_would : MethodName := ⟨RX7, "would", "(II)I"⟩
abbrev cX7_zeros : ByteArray := prog_9_method_43_code
def yX7_zeros : MethodName := ⟨RX7, "zeros", "()I"⟩
abbrev cX7_count : ByteArray := prog_9_method_44_code
def yX7_count : MethodName := ⟨RX7, "count", "(I)I"⟩
abbrev cX7_undo : ByteArray := prog_9_method_45_code
def yX7_undo : MethodName := ⟨RX7, "undo", "()I"⟩
abbrev cX7_type : ByteArray := prog_9_method_46_code
def yX7_type : MethodName := ⟨RX7, "type", "(I)I"⟩
abbrev cX7_clearText : ByteArray := prog_9_method_47_code
def yX7_clearText : MethodName := ⟨RX7, "clearText", "()I"⟩
abbrev cX7_isAt : ByteArray := prog_9_method_48_code
def yX7_isAt : MethodName := ⟨RX7, "isAt", "(II)Z"⟩
abbrev cX7_passes : ByteArray := prog_9_method_49_code
def yX7_passes : MethodName := ⟨RX7, "passes", "(I)Z"⟩
abbrev cX7_number : ByteArray := prog_9_method_50_code
def yX7_number : MethodName := ⟨RX7, "number", "(I)Z"⟩
abbrev cX7_reads : ByteArray := prog_9_method_51_code
def yX7_reads : MethodName := ⟨RX7, "reads", "()Z"⟩
abbrev cX7_calls : ByteArray := prog_9_method_52_code
def yX7_calls : MethodName := ⟨RX7, "calls", "()I"⟩
abbrev cX7_plays : ByteArray := prog_9_method_53_code
def yX7_plays : MethodName := ⟨RX7, "plays", "()Z"⟩
abbrev cX7_fault : ByteArray := prog_9_method_54_code
def yX7_fault : MethodName := ⟨RX7, "fault", "(I)I"⟩
abbrev cX7_play : ByteArray := prog_9_method_55_code
def yX7_play : MethodName := ⟨RX7, "play", "()I"⟩
def RJ6 : String := "java/lang/Integer"
def TJ6 : u_T := fun k => match k with
  | _ => ("", "", "", false)
def tyJ6 : Nat → FieldType := fun k => match k with
  | _ => .int
abbrev wsJ60 : List Cond := u_ws RJ6 TJ6 0
theorem nmJ6 : ∀ a, a < 0 → ∀ b, b < 0 → a ≠ b → (TJ6 a).2.1 ≠ (TJ6 b).2.1 := by decide +kernel
theorem tyJ6_ok : ∀ k, k < 0 → parseFieldDescriptor (TJ6 k).2.2.1 = some (tyJ6 k) := by decide +kernel
abbrev cJ6_bitCount_0f7a4 : ByteArray := prog_10_method_49_code
def yJ6_bitCount_0f7a4 : MethodName := ⟨RJ6, "bitCount", "(I)I"⟩
def RJ9 : String := "java/lang/Math"
def TJ9 : u_T := fun k => match k with
  | _ => ("", "", "", false)
def tyJ9 : Nat → FieldType := fun k => match k with
  | _ => .int
abbrev wsJ90 : List Cond := u_ws RJ9 TJ9 0
theorem nmJ9 : ∀ a, a < 0 → ∀ b, b < 0 → a ≠ b → (TJ9 a).2.1 ≠ (TJ9 b).2.1 := by decide +kernel
theorem tyJ9_ok : ∀ k, k < 0 → parseFieldDescriptor (TJ9 k).2.2.1 = some (tyJ9 k) := by decide +kernel
abbrev cJ9_abs_0f7a4 : ByteArray := prog_11_method_59_code
def yJ9_abs_0f7a4 : MethodName := ⟨RJ9, "abs", "(I)I"⟩
abbrev cJ9_max_7cf53 : ByteArray := prog_11_method_65_code
def yJ9_max_7cf53 : MethodName := ⟨RJ9, "max", "(II)I"⟩
abbrev cJ9_min_7cf53 : ByteArray := prog_11_method_69_code
def yJ9_min_7cf53 : MethodName := ⟨RJ9, "min", "(II)I"⟩
def RL : String := "ParticleLinesLaw"
abbrev cL_law : ByteArray := code
def yL_law : MethodName := ⟨RL, "law", "([I)Z"⟩
def wsX0_init : List Cond := .code yX0_init cX0_init 1 none :: ([.methodLink RX0 3 objectInit, .instanceMethod objectInit, .code objectInit ⟨#[0xb1]⟩ 1 none, .arrayClass .int, .fieldLink RX0 9 "ParticleLines$Choice" "ancestors" "[I", .arrayClass .long, .fieldLink RX0 15 "ParticleLines$Choice" "rests" "[J", .fieldLink RX0 19 "ParticleLines$Choice" "noise" "I"] ++ wsX00)
def wsX0_chosenFor : List Cond := .code yX0_chosenFor cX0_chosenFor 2 (some .int) :: ([.fieldLink RX0 9 "ParticleLines$Choice" "ancestors" "[I"] ++ wsX00)
def wsX0_noise : List Cond := .code yX0_noise cX0_noise 1 (some .int) :: ([.fieldLink RX0 19 "ParticleLines$Choice" "noise" "I"] ++ wsX00)
def wsX5_sum : List Cond := .code yX5_sum cX5_sum 4 (some .long) :: ([.fieldLink RX5 15 "ParticleLines$Weights" "many" "I", .fieldLink RX5 9 "ParticleLines$Weights" "weights" "[I"] ++ wsX50)
def wsX5_firstAbove : List Cond := .code yX5_firstAbove cX5_firstAbove 6 (some .int) :: ([.fieldLink RX5 15 "ParticleLines$Weights" "many" "I", .fieldLink RX5 9 "ParticleLines$Weights" "weights" "[I"] ++ wsX50)
def wsX0_chooseByOffset : List Cond := .code yX0_chooseByOffset cX0_chooseByOffset 8 none :: ([.constantLong RX0 40 (100), .fieldLink RX0 9 "ParticleLines$Choice" "ancestors" "[I", .methodLink RX0 34 yX5_sum, .instanceMethod yX5_sum, .selects RX5 yX5_sum yX5_sum, .initialized RX5, .code yX5_sum cX5_sum 4 (some .long), .fieldLink RX5 15 "ParticleLines$Weights" "many" "I", .fieldLink RX5 9 "ParticleLines$Weights" "weights" "[I", .methodLink RX0 45 yX5_firstAbove, .instanceMethod yX5_firstAbove, .selects RX5 yX5_firstAbove yX5_firstAbove, .code yX5_firstAbove cX5_firstAbove 6 (some .int)] ++ wsX50 ++ wsX00)
def wsX6_noiseBehind : List Cond := .code yX6_noiseBehind cX6_noiseBehind 1 (some .int) :: ([.constant RX6 145 (65537)])
def wsX0_chooseByNoises : List Cond := .code yX0_chooseByNoises cX0_chooseByNoises 5 none :: ([.fieldLink RX0 9 "ParticleLines$Choice" "ancestors" "[I", .fieldLink RX0 19 "ParticleLines$Choice" "noise" "I", .methodLink RX0 34 yX5_sum, .instanceMethod yX5_sum, .selects RX5 yX5_sum yX5_sum, .initialized RX5, .code yX5_sum cX5_sum 4 (some .long), .fieldLink RX5 15 "ParticleLines$Weights" "many" "I", .fieldLink RX5 9 "ParticleLines$Weights" "weights" "[I", .static yX6_noiseBehind, .initialized RX6, .code yX6_noiseBehind cX6_noiseBehind 1 (some .int), .constant RX6 145 (65537), .methodLink RX0 45 yX5_firstAbove, .instanceMethod yX5_firstAbove, .selects RX5 yX5_firstAbove yX5_firstAbove, .code yX5_firstAbove cX5_firstAbove 6 (some .int)] ++ wsX50 ++ wsX00)
def wsX5_weightOf : List Cond := .code yX5_weightOf cX5_weightOf 2 (some .int) :: ([.fieldLink RX5 9 "ParticleLines$Weights" "weights" "[I"] ++ wsX50)
def wsX0_restsAheadOf : List Cond := .code yX0_restsAheadOf cX0_restsAheadOf 8 (some .int) :: ([.fieldLink RX0 15 "ParticleLines$Choice" "rests" "[J"] ++ wsX00)
def wsX0_chooseByShares : List Cond := .code yX0_chooseByShares cX0_chooseByShares 13 none :: ([.fieldLink RX0 15 "ParticleLines$Choice" "rests" "[J", .fieldLink RX0 9 "ParticleLines$Choice" "ancestors" "[I", .methodLink RX0 34 yX5_sum, .instanceMethod yX5_sum, .selects RX5 yX5_sum yX5_sum, .initialized RX5, .code yX5_sum cX5_sum 4 (some .long), .fieldLink RX5 15 "ParticleLines$Weights" "many" "I", .fieldLink RX5 9 "ParticleLines$Weights" "weights" "[I", .methodLink RX0 53 yX5_weightOf, .instanceMethod yX5_weightOf, .selects RX5 yX5_weightOf yX5_weightOf, .code yX5_weightOf cX5_weightOf 2 (some .int), .methodLink RX0 56 yX0_restsAheadOf, .instanceMethod yX0_restsAheadOf, .selects RX0 yX0_restsAheadOf yX0_restsAheadOf, .initialized RX0, .code yX0_restsAheadOf cX0_restsAheadOf 8 (some .int)] ++ wsX50 ++ wsX00)
def wsX0_choose_r1 : List Cond := [Cond.fieldLink RX0 19 "ParticleLines$Choice" "noise" "I", Cond.methodLink RX0 23 yX0_chooseByOffset, Cond.instanceMethod yX0_chooseByOffset, Cond.selects RX0 yX0_chooseByOffset yX0_chooseByOffset, Cond.initialized RX0, Cond.code yX0_chooseByOffset cX0_chooseByOffset 8 none, Cond.constantLong RX0 40 (100), Cond.fieldLink RX0 9 "ParticleLines$Choice" "ancestors" "[I", Cond.methodLink RX0 34 yX5_sum, Cond.instanceMethod yX5_sum, Cond.selects RX5 yX5_sum yX5_sum, Cond.initialized RX5, Cond.code yX5_sum cX5_sum 4 (some .long), Cond.fieldLink RX5 15 "ParticleLines$Weights" "many" "I", Cond.fieldLink RX5 9 "ParticleLines$Weights" "weights" "[I", Cond.methodLink RX0 45 yX5_firstAbove, Cond.instanceMethod yX5_firstAbove, Cond.selects RX5 yX5_firstAbove yX5_firstAbove, Cond.code yX5_firstAbove cX5_firstAbove 6 (some .int), Cond.methodLink RX0 27 yX0_chooseByNoises, Cond.instanceMethod yX0_chooseByNoises, Cond.selects RX0 yX0_chooseByNoises yX0_chooseByNoises, Cond.code yX0_chooseByNoises cX0_chooseByNoises 5 none, Cond.static yX6_noiseBehind]
def wsX0_choose_r2 : List Cond := [Cond.initialized RX6, Cond.code yX6_noiseBehind cX6_noiseBehind 1 (some .int), Cond.constant RX6 145 (65537), Cond.methodLink RX0 31 yX0_chooseByShares, Cond.instanceMethod yX0_chooseByShares, Cond.selects RX0 yX0_chooseByShares yX0_chooseByShares, Cond.code yX0_chooseByShares cX0_chooseByShares 13 none, Cond.fieldLink RX0 15 "ParticleLines$Choice" "rests" "[J", Cond.methodLink RX0 53 yX5_weightOf, Cond.instanceMethod yX5_weightOf, Cond.selects RX5 yX5_weightOf yX5_weightOf, Cond.code yX5_weightOf cX5_weightOf 2 (some .int), Cond.methodLink RX0 56 yX0_restsAheadOf, Cond.instanceMethod yX0_restsAheadOf, Cond.selects RX0 yX0_restsAheadOf yX0_restsAheadOf, Cond.code yX0_restsAheadOf cX0_restsAheadOf 8 (some .int)]
def wsX0_choose : List Cond := .code yX0_choose cX0_choose 5 none :: ((wsX0_choose_r1 ++ wsX0_choose_r2) ++ wsX00 ++ wsX50)
def wsX2_init : List Cond := .code yX2_init cX2_init 2 none :: ([.methodLink RX2 1 objectInit, .instanceMethod objectInit, .code objectInit ⟨#[0xb1]⟩ 1 none, .methodLink RX2 7 Lib.Math.max.name, .static Lib.Math.max.name, .initialized "java/lang/Math", .code Lib.Math.max.name Lib.Math.max.code 2 (some .int), .arrayClass .int, .fieldLink RX2 13 "ParticleLines$Row" "numbers" "[I"] ++ wsX20)
def wsX1_init : List Cond := .code yX1_init cX1_init 1 none :: ([.methodLink RX1 3 objectInit, .instanceMethod objectInit, .code objectInit ⟨#[0xb1]⟩ 1 none, .classLink RX1 9 RX2, .instantiable RX2 1, .initialized RX2, .fieldLink RX1 14 "ParticleLines$Lineage" "places" "LParticleLines$Row;", .fieldLink RX1 20 "ParticleLines$Lineage" "parents" "LParticleLines$Row;", .fieldLink RX1 23 "ParticleLines$Lineage" "origins" "LParticleLines$Row;", .fieldLink RX1 26 "ParticleLines$Lineage" "drifts" "LParticleLines$Row;", .fieldLink RX1 29 "ParticleLines$Lineage" "spreads" "LParticleLines$Row;", .fieldLink RX1 32 "ParticleLines$Lineage" "schemes" "LParticleLines$Row;", .fieldLink RX1 35 "ParticleLines$Lineage" "many" "I", .fieldLink RX1 39 "ParticleLines$Lineage" "generations" "I", .methodLink RX1 11 yX2_init, .instanceMethod yX2_init, .code yX2_init cX2_init 2 none, .methodLink RX2 1 objectInit, .methodLink RX2 7 Lib.Math.max.name, .static Lib.Math.max.name, .initialized "java/lang/Math", .code Lib.Math.max.name Lib.Math.max.code 2 (some .int), .arrayClass .int, .fieldLink RX2 13 "ParticleLines$Row" "numbers" "[I"] ++ wsX20 ++ wsX10)
def wsX2_copyRow : List Cond := .code yX2_copyRow cX2_copyRow 3 none :: ([.fieldLink RX2 13 "ParticleLines$Row" "numbers" "[I"] ++ wsX20)
def wsX1_copyLineage : List Cond := .code yX1_copyLineage cX1_copyLineage 2 none :: ([.fieldLink RX1 14 "ParticleLines$Lineage" "places" "LParticleLines$Row;", .fieldLink RX1 20 "ParticleLines$Lineage" "parents" "LParticleLines$Row;", .fieldLink RX1 23 "ParticleLines$Lineage" "origins" "LParticleLines$Row;", .fieldLink RX1 26 "ParticleLines$Lineage" "drifts" "LParticleLines$Row;", .fieldLink RX1 29 "ParticleLines$Lineage" "spreads" "LParticleLines$Row;", .fieldLink RX1 32 "ParticleLines$Lineage" "schemes" "LParticleLines$Row;", .fieldLink RX1 35 "ParticleLines$Lineage" "many" "I", .fieldLink RX1 39 "ParticleLines$Lineage" "generations" "I", .methodLink RX1 42 yX2_copyRow, .instanceMethod yX2_copyRow, .selects RX2 yX2_copyRow yX2_copyRow, .initialized RX2, .code yX2_copyRow cX2_copyRow 3 none, .fieldLink RX2 13 "ParticleLines$Row" "numbers" "[I"] ++ wsX10 ++ wsX20)
def wsX2_put : List Cond := .code yX2_put cX2_put 3 none :: ([.fieldLink RX2 13 "ParticleLines$Row" "numbers" "[I"] ++ wsX20)
def wsX6_nearestPlace : List Cond := .code yX6_nearestPlace cX6_nearestPlace 1 (some .int) :: ([.methodLink RX6 137 Lib.Math.min.name, .static Lib.Math.min.name, .initialized "java/lang/Math", .code Lib.Math.min.name Lib.Math.min.code 2 (some .int), .methodLink RX6 142 Lib.Math.max.name, .static Lib.Math.max.name, .code Lib.Math.max.name Lib.Math.max.code 2 (some .int)])
def wsX1_startWith : List Cond := .code yX1_startWith cX1_startWith 5 none :: ([.fieldLink RX1 35 "ParticleLines$Lineage" "many" "I", .fieldLink RX1 39 "ParticleLines$Lineage" "generations" "I", .fieldLink RX1 23 "ParticleLines$Lineage" "origins" "LParticleLines$Row;", .fieldLink RX1 14 "ParticleLines$Lineage" "places" "LParticleLines$Row;", .methodLink RX1 46 yX2_put, .instanceMethod yX2_put, .selects RX2 yX2_put yX2_put, .initialized RX2, .code yX2_put cX2_put 3 none, .fieldLink RX2 13 "ParticleLines$Row" "numbers" "[I", .static yX6_nearestPlace, .initialized RX6, .code yX6_nearestPlace cX6_nearestPlace 1 (some .int), .methodLink RX6 137 Lib.Math.min.name, .static Lib.Math.min.name, .initialized "java/lang/Math", .code Lib.Math.min.name Lib.Math.min.code 2 (some .int), .methodLink RX6 142 Lib.Math.max.name, .static Lib.Math.max.name, .code Lib.Math.max.name Lib.Math.max.code 2 (some .int)] ++ wsX10 ++ wsX20)
def wsX1_addMoved : List Cond := .code yX1_addMoved cX1_addMoved 3 none :: ([.fieldLink RX1 23 "ParticleLines$Lineage" "origins" "LParticleLines$Row;", .fieldLink RX1 39 "ParticleLines$Lineage" "generations" "I", .fieldLink RX1 26 "ParticleLines$Lineage" "drifts" "LParticleLines$Row;", .fieldLink RX1 29 "ParticleLines$Lineage" "spreads" "LParticleLines$Row;", .methodLink RX1 46 yX2_put, .instanceMethod yX2_put, .selects RX2 yX2_put yX2_put, .initialized RX2, .code yX2_put cX2_put 3 none, .fieldLink RX2 13 "ParticleLines$Row" "numbers" "[I"] ++ wsX10 ++ wsX20)
def wsX1_addResampled : List Cond := .code yX1_addResampled cX1_addResampled 2 none :: ([.fieldLink RX1 23 "ParticleLines$Lineage" "origins" "LParticleLines$Row;", .fieldLink RX1 39 "ParticleLines$Lineage" "generations" "I", .fieldLink RX1 32 "ParticleLines$Lineage" "schemes" "LParticleLines$Row;", .methodLink RX1 46 yX2_put, .instanceMethod yX2_put, .selects RX2 yX2_put yX2_put, .initialized RX2, .code yX2_put cX2_put 3 none, .fieldLink RX2 13 "ParticleLines$Row" "numbers" "[I"] ++ wsX10 ++ wsX20)
def wsX1_latest : List Cond := .code yX1_latest cX1_latest 1 (some .int) :: ([.fieldLink RX1 39 "ParticleLines$Lineage" "generations" "I"] ++ wsX10)
def wsX1_putParticle : List Cond := .code yX1_putParticle cX1_putParticle 5 none :: ([.fieldLink RX1 20 "ParticleLines$Lineage" "parents" "LParticleLines$Row;", .fieldLink RX1 14 "ParticleLines$Lineage" "places" "LParticleLines$Row;", .methodLink RX1 54 yX1_latest, .instanceMethod yX1_latest, .selects RX1 yX1_latest yX1_latest, .initialized RX1, .code yX1_latest cX1_latest 1 (some .int), .fieldLink RX1 39 "ParticleLines$Lineage" "generations" "I", .methodLink RX1 46 yX2_put, .instanceMethod yX2_put, .selects RX2 yX2_put yX2_put, .initialized RX2, .code yX2_put cX2_put 3 none, .fieldLink RX2 13 "ParticleLines$Row" "numbers" "[I"] ++ wsX10 ++ wsX20)
def wsX1_many : List Cond := .code yX1_many cX1_many 1 (some .int) :: ([.fieldLink RX1 35 "ParticleLines$Lineage" "many" "I"] ++ wsX10)
def wsX1_generations : List Cond := .code yX1_generations cX1_generations 1 (some .int) :: ([.fieldLink RX1 39 "ParticleLines$Lineage" "generations" "I"] ++ wsX10)
def wsX2_at : List Cond := .code yX2_at cX2_at 2 (some .int) :: ([.fieldLink RX2 13 "ParticleLines$Row" "numbers" "[I"] ++ wsX20)
def wsX1_placeIn : List Cond := .code yX1_placeIn cX1_placeIn 3 (some .int) :: ([.fieldLink RX1 14 "ParticleLines$Lineage" "places" "LParticleLines$Row;", .methodLink RX1 58 yX2_at, .instanceMethod yX2_at, .selects RX2 yX2_at yX2_at, .initialized RX2, .code yX2_at cX2_at 2 (some .int), .fieldLink RX2 13 "ParticleLines$Row" "numbers" "[I"] ++ wsX10 ++ wsX20)
def wsX1_parentIn : List Cond := .code yX1_parentIn cX1_parentIn 3 (some .int) :: ([.fieldLink RX1 20 "ParticleLines$Lineage" "parents" "LParticleLines$Row;", .methodLink RX1 58 yX2_at, .instanceMethod yX2_at, .selects RX2 yX2_at yX2_at, .initialized RX2, .code yX2_at cX2_at 2 (some .int), .fieldLink RX2 13 "ParticleLines$Row" "numbers" "[I"] ++ wsX10 ++ wsX20)
def wsX1_originOf : List Cond := .code yX1_originOf cX1_originOf 2 (some .int) :: ([.fieldLink RX1 23 "ParticleLines$Lineage" "origins" "LParticleLines$Row;", .methodLink RX1 58 yX2_at, .instanceMethod yX2_at, .selects RX2 yX2_at yX2_at, .initialized RX2, .code yX2_at cX2_at 2 (some .int), .fieldLink RX2 13 "ParticleLines$Row" "numbers" "[I"] ++ wsX10 ++ wsX20)
def wsX1_driftOf : List Cond := .code yX1_driftOf cX1_driftOf 2 (some .int) :: ([.fieldLink RX1 26 "ParticleLines$Lineage" "drifts" "LParticleLines$Row;", .methodLink RX1 58 yX2_at, .instanceMethod yX2_at, .selects RX2 yX2_at yX2_at, .initialized RX2, .code yX2_at cX2_at 2 (some .int), .fieldLink RX2 13 "ParticleLines$Row" "numbers" "[I"] ++ wsX10 ++ wsX20)
def wsX1_spreadOf : List Cond := .code yX1_spreadOf cX1_spreadOf 2 (some .int) :: ([.fieldLink RX1 29 "ParticleLines$Lineage" "spreads" "LParticleLines$Row;", .methodLink RX1 58 yX2_at, .instanceMethod yX2_at, .selects RX2 yX2_at yX2_at, .initialized RX2, .code yX2_at cX2_at 2 (some .int), .fieldLink RX2 13 "ParticleLines$Row" "numbers" "[I"] ++ wsX10 ++ wsX20)
def wsX1_schemeOf : List Cond := .code yX1_schemeOf cX1_schemeOf 2 (some .int) :: ([.fieldLink RX1 32 "ParticleLines$Lineage" "schemes" "LParticleLines$Row;", .methodLink RX1 58 yX2_at, .instanceMethod yX2_at, .selects RX2 yX2_at yX2_at, .initialized RX2, .code yX2_at cX2_at 2 (some .int), .fieldLink RX2 13 "ParticleLines$Row" "numbers" "[I"] ++ wsX10 ++ wsX20)
def wsX1_ancestorIn : List Cond := .code yX1_ancestorIn cX1_ancestorIn 5 (some .int) :: ([.fieldLink RX1 20 "ParticleLines$Lineage" "parents" "LParticleLines$Row;", .methodLink RX1 54 yX1_latest, .instanceMethod yX1_latest, .selects RX1 yX1_latest yX1_latest, .initialized RX1, .code yX1_latest cX1_latest 1 (some .int), .fieldLink RX1 39 "ParticleLines$Lineage" "generations" "I", .methodLink RX1 58 yX2_at, .instanceMethod yX2_at, .selects RX2 yX2_at yX2_at, .initialized RX2, .code yX2_at cX2_at 2 (some .int), .fieldLink RX2 13 "ParticleLines$Row" "numbers" "[I"] ++ wsX10 ++ wsX20)
def wsJ6_bitCount_0f7a4 : List Cond := .code yJ6_bitCount_0f7a4 cJ6_bitCount_0f7a4 1 (some .int) :: ([.constant RJ6 265 (1431655765), .constant RJ6 266 (858993459), .constant RJ6 267 (252645135)])
def wsX1_howManyAreAncestors_r1 : List Cond := [Cond.fieldLink RX1 35 "ParticleLines$Lineage" "many" "I", Cond.methodLink RX1 61 yX1_ancestorIn, Cond.instanceMethod yX1_ancestorIn, Cond.selects RX1 yX1_ancestorIn yX1_ancestorIn, Cond.initialized RX1, Cond.code yX1_ancestorIn cX1_ancestorIn 5 (some .int), Cond.fieldLink RX1 20 "ParticleLines$Lineage" "parents" "LParticleLines$Row;", Cond.methodLink RX1 54 yX1_latest, Cond.instanceMethod yX1_latest, Cond.selects RX1 yX1_latest yX1_latest, Cond.code yX1_latest cX1_latest 1 (some .int), Cond.fieldLink RX1 39 "ParticleLines$Lineage" "generations" "I", Cond.methodLink RX1 58 yX2_at, Cond.instanceMethod yX2_at, Cond.selects RX2 yX2_at yX2_at, Cond.initialized RX2, Cond.code yX2_at cX2_at 2 (some .int), Cond.fieldLink RX2 13 "ParticleLines$Row" "numbers" "[I", Cond.methodLink RX1 65 yJ6_bitCount_0f7a4, Cond.static yJ6_bitCount_0f7a4, Cond.initialized RJ6, Cond.code yJ6_bitCount_0f7a4 cJ6_bitCount_0f7a4 1 (some .int), Cond.constant RJ6 265 (1431655765), Cond.constant RJ6 266 (858993459)]
def wsX1_howManyAreAncestors_r2 : List Cond := [Cond.constant RJ6 267 (252645135)]
def wsX1_howManyAreAncestors : List Cond := .code yX1_howManyAreAncestors cX1_howManyAreAncestors 4 (some .int) :: ((wsX1_howManyAreAncestors_r1 ++ wsX1_howManyAreAncestors_r2) ++ wsX10 ++ wsX20)
def wsX1_howManyAt : List Cond := .code yX1_howManyAt cX1_howManyAt 5 (some .int) :: ([.fieldLink RX1 35 "ParticleLines$Lineage" "many" "I", .methodLink RX1 70 yX1_placeIn, .instanceMethod yX1_placeIn, .selects RX1 yX1_placeIn yX1_placeIn, .initialized RX1, .code yX1_placeIn cX1_placeIn 3 (some .int), .fieldLink RX1 14 "ParticleLines$Lineage" "places" "LParticleLines$Row;", .methodLink RX1 58 yX2_at, .instanceMethod yX2_at, .selects RX2 yX2_at yX2_at, .initialized RX2, .code yX2_at cX2_at 2 (some .int), .fieldLink RX2 13 "ParticleLines$Row" "numbers" "[I"] ++ wsX10 ++ wsX20)
def wsX1_isFirstAtItsPlace : List Cond := .code yX1_isFirstAtItsPlace cX1_isFirstAtItsPlace 5 (some .boolean) :: ([.methodLink RX1 70 yX1_placeIn, .instanceMethod yX1_placeIn, .selects RX1 yX1_placeIn yX1_placeIn, .initialized RX1, .code yX1_placeIn cX1_placeIn 3 (some .int), .fieldLink RX1 14 "ParticleLines$Lineage" "places" "LParticleLines$Row;", .methodLink RX1 58 yX2_at, .instanceMethod yX2_at, .selects RX2 yX2_at yX2_at, .initialized RX2, .code yX2_at cX2_at 2 (some .int), .fieldLink RX2 13 "ParticleLines$Row" "numbers" "[I"] ++ wsX10 ++ wsX20)
def wsX1_howManyUnlikePlaces : List Cond := .code yX1_howManyUnlikePlaces cX1_howManyUnlikePlaces 4 (some .int) :: ([.fieldLink RX1 35 "ParticleLines$Lineage" "many" "I", .methodLink RX1 73 yX1_isFirstAtItsPlace, .instanceMethod yX1_isFirstAtItsPlace, .selects RX1 yX1_isFirstAtItsPlace yX1_isFirstAtItsPlace, .initialized RX1, .code yX1_isFirstAtItsPlace cX1_isFirstAtItsPlace 5 (some .boolean), .methodLink RX1 70 yX1_placeIn, .instanceMethod yX1_placeIn, .selects RX1 yX1_placeIn yX1_placeIn, .code yX1_placeIn cX1_placeIn 3 (some .int), .fieldLink RX1 14 "ParticleLines$Lineage" "places" "LParticleLines$Row;", .methodLink RX1 58 yX2_at, .instanceMethod yX2_at, .selects RX2 yX2_at yX2_at, .initialized RX2, .code yX2_at cX2_at 2 (some .int), .fieldLink RX2 13 "ParticleLines$Row" "numbers" "[I"] ++ wsX10 ++ wsX20)
def wsX1_meetingOf : List Cond := .code yX1_meetingOf cX1_meetingOf 6 (some .int) :: ([.constant RX1 80 (-1000004), .methodLink RX1 54 yX1_latest, .instanceMethod yX1_latest, .selects RX1 yX1_latest yX1_latest, .initialized RX1, .code yX1_latest cX1_latest 1 (some .int), .fieldLink RX1 39 "ParticleLines$Lineage" "generations" "I", .methodLink RX1 77 yX1_parentIn, .instanceMethod yX1_parentIn, .selects RX1 yX1_parentIn yX1_parentIn, .code yX1_parentIn cX1_parentIn 3 (some .int), .fieldLink RX1 20 "ParticleLines$Lineage" "parents" "LParticleLines$Row;", .methodLink RX1 58 yX2_at, .instanceMethod yX2_at, .selects RX2 yX2_at yX2_at, .initialized RX2, .code yX2_at cX2_at 2 (some .int), .fieldLink RX2 13 "ParticleLines$Row" "numbers" "[I"] ++ wsX10 ++ wsX20)
def wsX3_init : List Cond := .code yX3_init cX3_init 1 none :: ([.methodLink RX3 3 objectInit, .instanceMethod objectInit, .code objectInit ⟨#[0xb1]⟩ 1 none, .arrayClass .int, .fieldLink RX3 9 "ParticleLines$Script" "characters" "[I"] ++ wsX30)
def wsX3_length : List Cond := .code yX3_length cX3_length 1 (some .int) :: ([.fieldLink RX3 15 "ParticleLines$Script" "length" "I"] ++ wsX30)
def wsX3_append : List Cond := .code yX3_append cX3_append 2 (some .int) :: ([.fieldLink RX3 15 "ParticleLines$Script" "length" "I", .fieldLink RX3 9 "ParticleLines$Script" "characters" "[I", .constant RX3 19 (-1000003)] ++ wsX30)
def wsX3_empty : List Cond := .code yX3_empty cX3_empty 2 (some .int) :: ([.fieldLink RX3 15 "ParticleLines$Script" "length" "I"] ++ wsX30)
def wsX3_ordersDone : List Cond := .code yX3_ordersDone cX3_ordersDone 1 (some .int) :: ([.fieldLink RX3 20 "ParticleLines$Script" "ordersDone" "I"] ++ wsX30)
def wsX3_tellOfFault : List Cond := .code yX3_tellOfFault cX3_tellOfFault 2 (some .int) :: ([.fieldLink RX3 23 "ParticleLines$Script" "start" "I", .fieldLink RX3 26 "ParticleLines$Script" "reason" "I", .fieldLink RX3 29 "ParticleLines$Script" "cause" "I"] ++ wsX30)
def wsX3_here : List Cond := .code yX3_here cX3_here 1 (some .int) :: ([.fieldLink RX3 32 "ParticleLines$Script" "position" "I", .fieldLink RX3 15 "ParticleLines$Script" "length" "I", .fieldLink RX3 9 "ParticleLines$Script" "characters" "[I"] ++ wsX30)
def wsX3_pass : List Cond := .code yX3_pass cX3_pass 2 (some .boolean) :: ([.fieldLink RX3 32 "ParticleLines$Script" "position" "I", .methodLink RX3 61 yX3_here, .instanceMethod yX3_here, .selects RX3 yX3_here yX3_here, .initialized RX3, .code yX3_here cX3_here 1 (some .int), .fieldLink RX3 15 "ParticleLines$Script" "length" "I", .fieldLink RX3 9 "ParticleLines$Script" "characters" "[I"] ++ wsX30)
def wsX6_isWithin : List Cond := .code yX6_isWithin cX6_isWithin 3 (some .boolean) :: ([])
def wsX3_isDigitHere : List Cond := .code yX3_isDigitHere cX3_isDigitHere 1 (some .boolean) :: ([.methodLink RX3 61 yX3_here, .instanceMethod yX3_here, .selects RX3 yX3_here yX3_here, .initialized RX3, .code yX3_here cX3_here 1 (some .int), .fieldLink RX3 32 "ParticleLines$Script" "position" "I", .fieldLink RX3 15 "ParticleLines$Script" "length" "I", .fieldLink RX3 9 "ParticleLines$Script" "characters" "[I", .static yX6_isWithin, .initialized RX6, .code yX6_isWithin cX6_isWithin 3 (some .boolean)] ++ wsX30)
def wsX3_readNumber : List Cond := .code yX3_readNumber cX3_readNumber 3 (some .int) :: ([.fieldLink RX3 32 "ParticleLines$Script" "position" "I", .methodLink RX3 71 yX3_isDigitHere, .instanceMethod yX3_isDigitHere, .selects RX3 yX3_isDigitHere yX3_isDigitHere, .initialized RX3, .code yX3_isDigitHere cX3_isDigitHere 1 (some .boolean), .methodLink RX3 61 yX3_here, .instanceMethod yX3_here, .selects RX3 yX3_here yX3_here, .code yX3_here cX3_here 1 (some .int), .fieldLink RX3 15 "ParticleLines$Script" "length" "I", .fieldLink RX3 9 "ParticleLines$Script" "characters" "[I", .static yX6_isWithin, .initialized RX6, .code yX6_isWithin cX6_isWithin 3 (some .boolean)] ++ wsX30)
def wsX3_readNumbers_r1 : List Cond := [Cond.fieldLink RX3 39 "ParticleLines$Script" "kind" "I", Cond.fieldLink RX3 42 "ParticleLines$Script" "first" "I", Cond.fieldLink RX3 45 "ParticleLines$Script" "second" "I", Cond.methodLink RX3 67 yX3_pass, Cond.instanceMethod yX3_pass, Cond.selects RX3 yX3_pass yX3_pass, Cond.initialized RX3, Cond.code yX3_pass cX3_pass 2 (some .boolean), Cond.fieldLink RX3 32 "ParticleLines$Script" "position" "I", Cond.methodLink RX3 61 yX3_here, Cond.instanceMethod yX3_here, Cond.selects RX3 yX3_here yX3_here, Cond.code yX3_here cX3_here 1 (some .int), Cond.fieldLink RX3 15 "ParticleLines$Script" "length" "I", Cond.fieldLink RX3 9 "ParticleLines$Script" "characters" "[I", Cond.methodLink RX3 71 yX3_isDigitHere, Cond.instanceMethod yX3_isDigitHere, Cond.selects RX3 yX3_isDigitHere yX3_isDigitHere, Cond.code yX3_isDigitHere cX3_isDigitHere 1 (some .boolean), Cond.static yX6_isWithin, Cond.initialized RX6, Cond.code yX6_isWithin cX6_isWithin 3 (some .boolean), Cond.methodLink RX3 74 yX3_readNumber, Cond.instanceMethod yX3_readNumber]
def wsX3_readNumbers_r2 : List Cond := [Cond.selects RX3 yX3_readNumber yX3_readNumber, Cond.code yX3_readNumber cX3_readNumber 3 (some .int)]
def wsX3_readNumbers : List Cond := .code yX3_readNumbers cX3_readNumbers 3 (some .boolean) :: ((wsX3_readNumbers_r1 ++ wsX3_readNumbers_r2) ++ wsX30)
def wsX3_readOrder_r1 : List Cond := [Cond.fieldLink RX3 39 "ParticleLines$Script" "kind" "I", Cond.fieldLink RX3 32 "ParticleLines$Script" "position" "I", Cond.methodLink RX3 61 yX3_here, Cond.instanceMethod yX3_here, Cond.selects RX3 yX3_here yX3_here, Cond.initialized RX3, Cond.code yX3_here cX3_here 1 (some .int), Cond.fieldLink RX3 15 "ParticleLines$Script" "length" "I", Cond.fieldLink RX3 9 "ParticleLines$Script" "characters" "[I", Cond.methodLink RX3 64 yX3_readNumbers, Cond.instanceMethod yX3_readNumbers, Cond.selects RX3 yX3_readNumbers yX3_readNumbers, Cond.code yX3_readNumbers cX3_readNumbers 3 (some .boolean), Cond.fieldLink RX3 42 "ParticleLines$Script" "first" "I", Cond.fieldLink RX3 45 "ParticleLines$Script" "second" "I", Cond.methodLink RX3 67 yX3_pass, Cond.instanceMethod yX3_pass, Cond.selects RX3 yX3_pass yX3_pass, Cond.code yX3_pass cX3_pass 2 (some .boolean), Cond.methodLink RX3 71 yX3_isDigitHere, Cond.instanceMethod yX3_isDigitHere, Cond.selects RX3 yX3_isDigitHere yX3_isDigitHere, Cond.code yX3_isDigitHere cX3_isDigitHere 1 (some .boolean), Cond.static yX6_isWithin]
def wsX3_readOrder_r2 : List Cond := [Cond.initialized RX6, Cond.code yX6_isWithin cX6_isWithin 3 (some .boolean), Cond.methodLink RX3 74 yX3_readNumber, Cond.instanceMethod yX3_readNumber, Cond.selects RX3 yX3_readNumber yX3_readNumber, Cond.code yX3_readNumber cX3_readNumber 3 (some .int)]
def wsX3_readOrder : List Cond := .code yX3_readOrder cX3_readOrder 1 (some .boolean) :: ((wsX3_readOrder_r1 ++ wsX3_readOrder_r2) ++ wsX30)
def wsX4_shift_r1 : List Cond := [Cond.constant RX4 78 (-1000001), Cond.fieldLink RX4 12 "ParticleLines$State" "lineage" "LParticleLines$Lineage;", Cond.constant RX4 100 (-1000003), Cond.fieldLink RX4 58 "ParticleLines$State" "noise" "I", Cond.static yX6_isWithin, Cond.initialized RX6, Cond.code yX6_isWithin cX6_isWithin 3 (some .boolean), Cond.methodLink RX4 79 yX1_generations, Cond.instanceMethod yX1_generations, Cond.selects RX1 yX1_generations yX1_generations, Cond.initialized RX1, Cond.code yX1_generations cX1_generations 1 (some .int), Cond.fieldLink RX1 39 "ParticleLines$Lineage" "generations" "I", Cond.methodLink RX4 101 yX1_latest, Cond.instanceMethod yX1_latest, Cond.selects RX1 yX1_latest yX1_latest, Cond.code yX1_latest cX1_latest 1 (some .int), Cond.methodLink RX4 104 yX1_addMoved, Cond.instanceMethod yX1_addMoved, Cond.selects RX1 yX1_addMoved yX1_addMoved, Cond.code yX1_addMoved cX1_addMoved 3 none, Cond.fieldLink RX1 23 "ParticleLines$Lineage" "origins" "LParticleLines$Row;", Cond.fieldLink RX1 26 "ParticleLines$Lineage" "drifts" "LParticleLines$Row;", Cond.fieldLink RX1 29 "ParticleLines$Lineage" "spreads" "LParticleLines$Row;"]
def wsX4_shift_r2 : List Cond := [Cond.methodLink RX1 46 yX2_put, Cond.instanceMethod yX2_put, Cond.selects RX2 yX2_put yX2_put, Cond.initialized RX2, Cond.code yX2_put cX2_put 3 none, Cond.fieldLink RX2 13 "ParticleLines$Row" "numbers" "[I", Cond.methodLink RX4 107 yX1_many, Cond.instanceMethod yX1_many, Cond.selects RX1 yX1_many yX1_many, Cond.code yX1_many cX1_many 1 (some .int), Cond.fieldLink RX1 35 "ParticleLines$Lineage" "many" "I", Cond.static yX6_noiseBehind, Cond.code yX6_noiseBehind cX6_noiseBehind 1 (some .int), Cond.constant RX6 145 (65537), Cond.methodLink RX4 113 yX1_placeIn, Cond.instanceMethod yX1_placeIn, Cond.selects RX1 yX1_placeIn yX1_placeIn, Cond.code yX1_placeIn cX1_placeIn 3 (some .int), Cond.fieldLink RX1 14 "ParticleLines$Lineage" "places" "LParticleLines$Row;", Cond.methodLink RX1 58 yX2_at, Cond.instanceMethod yX2_at, Cond.selects RX2 yX2_at yX2_at, Cond.code yX2_at cX2_at 2 (some .int), Cond.static yX6_nearestPlace]
def wsX4_shift_r3 : List Cond := [Cond.code yX6_nearestPlace cX6_nearestPlace 1 (some .int), Cond.methodLink RX6 137 Lib.Math.min.name, Cond.static Lib.Math.min.name, Cond.initialized "java/lang/Math", Cond.code Lib.Math.min.name Lib.Math.min.code 2 (some .int), Cond.methodLink RX6 142 Lib.Math.max.name, Cond.static Lib.Math.max.name, Cond.code Lib.Math.max.name Lib.Math.max.code 2 (some .int), Cond.methodLink RX4 120 yX1_putParticle, Cond.instanceMethod yX1_putParticle, Cond.selects RX1 yX1_putParticle yX1_putParticle, Cond.code yX1_putParticle cX1_putParticle 5 none, Cond.fieldLink RX1 20 "ParticleLines$Lineage" "parents" "LParticleLines$Row;", Cond.methodLink RX1 54 yX1_latest]
def wsX4_shift : List Cond := .code yX4_shift cX4_shift 6 (some .int) :: ((wsX4_shift_r1 ++ (wsX4_shift_r2 ++ wsX4_shift_r3)) ++ wsX40 ++ wsX10 ++ wsX20)
def wsX5_putWeight : List Cond := .code yX5_putWeight cX5_putWeight 3 none :: ([.fieldLink RX5 9 "ParticleLines$Weights" "weights" "[I"] ++ wsX50)
def wsX6_commonDivisor : List Cond := .code yX6_commonDivisor cX6_commonDivisor 11 (some .long) :: ([])
def wsX5_reduce : List Cond := .code yX5_reduce cX5_reduce 4 (some .boolean) :: ([.fieldLink RX5 15 "ParticleLines$Weights" "many" "I", .fieldLink RX5 9 "ParticleLines$Weights" "weights" "[I", .static yX6_commonDivisor, .initialized RX6, .code yX6_commonDivisor cX6_commonDivisor 11 (some .long)] ++ wsX50)
def wsX5_greatest : List Cond := .code yX5_greatest cX5_greatest 3 (some .int) :: ([.fieldLink RX5 15 "ParticleLines$Weights" "many" "I", .fieldLink RX5 9 "ParticleLines$Weights" "weights" "[I", .methodLink RX5 25 Lib.Math.max.name, .static Lib.Math.max.name, .initialized "java/lang/Math", .code Lib.Math.max.name Lib.Math.max.code 2 (some .int)] ++ wsX50)
def wsX5_effectiveCount : List Cond := .code yX5_effectiveCount cX5_effectiveCount 8 (some .int) :: ([.fieldLink RX5 15 "ParticleLines$Weights" "many" "I", .fieldLink RX5 9 "ParticleLines$Weights" "weights" "[I"] ++ wsX50)
def wsX5_makeEqual : List Cond := .code yX5_makeEqual cX5_makeEqual 3 none :: ([.fieldLink RX5 9 "ParticleLines$Weights" "weights" "[I", .methodLink RX5 19 Lib.Math.min.name, .static Lib.Math.min.name, .initialized "java/lang/Math", .code Lib.Math.min.name Lib.Math.min.code 2 (some .int), .methodLink RX5 25 Lib.Math.max.name, .static Lib.Math.max.name, .code Lib.Math.max.name Lib.Math.max.code 2 (some .int), .fieldLink RX5 15 "ParticleLines$Weights" "many" "I"] ++ wsX50)
def wsX4_renew_r1 : List Cond := [Cond.fieldLink RX4 12 "ParticleLines$State" "lineage" "LParticleLines$Lineage;", Cond.constant RX4 100 (-1000003), Cond.fieldLink RX4 30 "ParticleLines$State" "settings" "LParticleLines$Row;", Cond.fieldLink RX4 34 "ParticleLines$State" "choice" "LParticleLines$Choice;", Cond.fieldLink RX4 21 "ParticleLines$State" "weights" "LParticleLines$Weights;", Cond.fieldLink RX4 58 "ParticleLines$State" "noise" "I", Cond.fieldLink RX4 65 "ParticleLines$State" "resamplings" "I", Cond.methodLink RX4 79 yX1_generations, Cond.instanceMethod yX1_generations, Cond.selects RX1 yX1_generations yX1_generations, Cond.initialized RX1, Cond.code yX1_generations cX1_generations 1 (some .int), Cond.fieldLink RX1 39 "ParticleLines$Lineage" "generations" "I", Cond.methodLink RX4 137 yX2_at, Cond.instanceMethod yX2_at, Cond.selects RX2 yX2_at yX2_at, Cond.initialized RX2, Cond.code yX2_at cX2_at 2 (some .int), Cond.fieldLink RX2 13 "ParticleLines$Row" "numbers" "[I", Cond.methodLink RX4 143 yX0_choose, Cond.instanceMethod yX0_choose, Cond.selects RX0 yX0_choose yX0_choose, Cond.initialized RX0, Cond.code yX0_choose cX0_choose 5 none]
def wsX4_renew_r2 : List Cond := [Cond.fieldLink RX0 19 "ParticleLines$Choice" "noise" "I", Cond.methodLink RX0 23 yX0_chooseByOffset, Cond.instanceMethod yX0_chooseByOffset, Cond.selects RX0 yX0_chooseByOffset yX0_chooseByOffset, Cond.code yX0_chooseByOffset cX0_chooseByOffset 8 none, Cond.constantLong RX0 40 (100), Cond.fieldLink RX0 9 "ParticleLines$Choice" "ancestors" "[I", Cond.methodLink RX0 34 yX5_sum, Cond.instanceMethod yX5_sum, Cond.selects RX5 yX5_sum yX5_sum, Cond.initialized RX5, Cond.code yX5_sum cX5_sum 4 (some .long), Cond.fieldLink RX5 15 "ParticleLines$Weights" "many" "I", Cond.fieldLink RX5 9 "ParticleLines$Weights" "weights" "[I", Cond.methodLink RX0 45 yX5_firstAbove, Cond.instanceMethod yX5_firstAbove, Cond.selects RX5 yX5_firstAbove yX5_firstAbove, Cond.code yX5_firstAbove cX5_firstAbove 6 (some .int), Cond.methodLink RX0 27 yX0_chooseByNoises, Cond.instanceMethod yX0_chooseByNoises, Cond.selects RX0 yX0_chooseByNoises yX0_chooseByNoises, Cond.code yX0_chooseByNoises cX0_chooseByNoises 5 none, Cond.static yX6_noiseBehind, Cond.initialized RX6]
def wsX4_renew_r3 : List Cond := [Cond.code yX6_noiseBehind cX6_noiseBehind 1 (some .int), Cond.constant RX6 145 (65537), Cond.methodLink RX0 31 yX0_chooseByShares, Cond.instanceMethod yX0_chooseByShares, Cond.selects RX0 yX0_chooseByShares yX0_chooseByShares, Cond.code yX0_chooseByShares cX0_chooseByShares 13 none, Cond.fieldLink RX0 15 "ParticleLines$Choice" "rests" "[J", Cond.methodLink RX0 53 yX5_weightOf, Cond.instanceMethod yX5_weightOf, Cond.selects RX5 yX5_weightOf yX5_weightOf, Cond.code yX5_weightOf cX5_weightOf 2 (some .int), Cond.methodLink RX0 56 yX0_restsAheadOf, Cond.instanceMethod yX0_restsAheadOf, Cond.selects RX0 yX0_restsAheadOf yX0_restsAheadOf, Cond.code yX0_restsAheadOf cX0_restsAheadOf 8 (some .int), Cond.methodLink RX4 101 yX1_latest, Cond.instanceMethod yX1_latest, Cond.selects RX1 yX1_latest yX1_latest, Cond.code yX1_latest cX1_latest 1 (some .int), Cond.methodLink RX4 149 yX1_addResampled, Cond.instanceMethod yX1_addResampled, Cond.selects RX1 yX1_addResampled yX1_addResampled, Cond.code yX1_addResampled cX1_addResampled 2 none, Cond.fieldLink RX1 23 "ParticleLines$Lineage" "origins" "LParticleLines$Row;"]
def wsX4_renew_r4 : List Cond := [Cond.fieldLink RX1 32 "ParticleLines$Lineage" "schemes" "LParticleLines$Row;", Cond.methodLink RX1 46 yX2_put, Cond.instanceMethod yX2_put, Cond.selects RX2 yX2_put yX2_put, Cond.code yX2_put cX2_put 3 none, Cond.methodLink RX4 107 yX1_many, Cond.instanceMethod yX1_many, Cond.selects RX1 yX1_many yX1_many, Cond.code yX1_many cX1_many 1 (some .int), Cond.fieldLink RX1 35 "ParticleLines$Lineage" "many" "I", Cond.methodLink RX4 152 yX0_chosenFor, Cond.instanceMethod yX0_chosenFor, Cond.selects RX0 yX0_chosenFor yX0_chosenFor, Cond.code yX0_chosenFor cX0_chosenFor 2 (some .int), Cond.methodLink RX4 113 yX1_placeIn, Cond.instanceMethod yX1_placeIn, Cond.selects RX1 yX1_placeIn yX1_placeIn, Cond.code yX1_placeIn cX1_placeIn 3 (some .int), Cond.fieldLink RX1 14 "ParticleLines$Lineage" "places" "LParticleLines$Row;", Cond.methodLink RX1 58 yX2_at, Cond.methodLink RX4 120 yX1_putParticle, Cond.instanceMethod yX1_putParticle, Cond.selects RX1 yX1_putParticle yX1_putParticle, Cond.code yX1_putParticle cX1_putParticle 5 none]
def wsX4_renew_r5 : List Cond := [Cond.fieldLink RX1 20 "ParticleLines$Lineage" "parents" "LParticleLines$Row;", Cond.methodLink RX1 54 yX1_latest, Cond.methodLink RX4 155 yX0_noise, Cond.instanceMethod yX0_noise, Cond.selects RX0 yX0_noise yX0_noise, Cond.code yX0_noise cX0_noise 1 (some .int), Cond.methodLink RX4 71 yX5_makeEqual, Cond.instanceMethod yX5_makeEqual, Cond.selects RX5 yX5_makeEqual yX5_makeEqual, Cond.code yX5_makeEqual cX5_makeEqual 3 none, Cond.methodLink RX5 19 Lib.Math.min.name, Cond.static Lib.Math.min.name, Cond.initialized "java/lang/Math", Cond.code Lib.Math.min.name Lib.Math.min.code 2 (some .int), Cond.methodLink RX5 25 Lib.Math.max.name, Cond.static Lib.Math.max.name, Cond.code Lib.Math.max.name Lib.Math.max.code 2 (some .int), Cond.methodLink RX4 157 yX1_howManyAreAncestors, Cond.instanceMethod yX1_howManyAreAncestors, Cond.selects RX1 yX1_howManyAreAncestors yX1_howManyAreAncestors, Cond.code yX1_howManyAreAncestors cX1_howManyAreAncestors 4 (some .int), Cond.methodLink RX1 61 yX1_ancestorIn, Cond.instanceMethod yX1_ancestorIn, Cond.selects RX1 yX1_ancestorIn yX1_ancestorIn]
def wsX4_renew_r6 : List Cond := [Cond.code yX1_ancestorIn cX1_ancestorIn 5 (some .int), Cond.methodLink RX1 65 yJ6_bitCount_0f7a4, Cond.static yJ6_bitCount_0f7a4, Cond.initialized RJ6, Cond.code yJ6_bitCount_0f7a4 cJ6_bitCount_0f7a4 1 (some .int), Cond.constant RJ6 265 (1431655765), Cond.constant RJ6 266 (858993459), Cond.constant RJ6 267 (252645135)]
def wsX4_renew : List Cond := .code yX4_renew cX4_renew 5 (some .int) :: ((wsX4_renew_r1 ++ (wsX4_renew_r2 ++ (wsX4_renew_r3 ++ (wsX4_renew_r4 ++ (wsX4_renew_r5 ++ wsX4_renew_r6))))) ++ wsX40 ++ wsX10 ++ wsX20 ++ wsX00 ++ wsX50)
def wsX4_look_r1 : List Cond := [Cond.constant RX4 78 (-1000001), Cond.fieldLink RX4 12 "ParticleLines$State" "lineage" "LParticleLines$Lineage;", Cond.methodLink RX4 123 Lib.Math.abs.name, Cond.static Lib.Math.abs.name, Cond.initialized "java/lang/Math", Cond.code Lib.Math.abs.name Lib.Math.abs.code 1 (some .int), Cond.fieldLink RX4 21 "ParticleLines$State" "weights" "LParticleLines$Weights;", Cond.methodLink RX4 128 Lib.Math.max.name, Cond.static Lib.Math.max.name, Cond.code Lib.Math.max.name Lib.Math.max.code 2 (some .int), Cond.constant RX4 95 (-1000002), Cond.constant RX4 87 (1000000), Cond.constant RX4 100 (-1000003), Cond.fieldLink RX4 62 "ParticleLines$State" "observations" "I", Cond.fieldLink RX4 30 "ParticleLines$State" "settings" "LParticleLines$Row;", Cond.static yX6_isWithin, Cond.initialized RX6, Cond.code yX6_isWithin cX6_isWithin 3 (some .boolean), Cond.methodLink RX4 107 yX1_many, Cond.instanceMethod yX1_many, Cond.selects RX1 yX1_many yX1_many, Cond.initialized RX1, Cond.code yX1_many cX1_many 1 (some .int), Cond.fieldLink RX1 35 "ParticleLines$Lineage" "many" "I"]
def wsX4_look_r2 : List Cond := [Cond.methodLink RX4 101 yX1_latest, Cond.instanceMethod yX1_latest, Cond.selects RX1 yX1_latest yX1_latest, Cond.code yX1_latest cX1_latest 1 (some .int), Cond.fieldLink RX1 39 "ParticleLines$Lineage" "generations" "I", Cond.methodLink RX4 113 yX1_placeIn, Cond.instanceMethod yX1_placeIn, Cond.selects RX1 yX1_placeIn yX1_placeIn, Cond.code yX1_placeIn cX1_placeIn 3 (some .int), Cond.fieldLink RX1 14 "ParticleLines$Lineage" "places" "LParticleLines$Row;", Cond.methodLink RX1 58 yX2_at, Cond.instanceMethod yX2_at, Cond.selects RX2 yX2_at yX2_at, Cond.initialized RX2, Cond.code yX2_at cX2_at 2 (some .int), Cond.fieldLink RX2 13 "ParticleLines$Row" "numbers" "[I", Cond.methodLink RX4 96 yX5_weightOf, Cond.instanceMethod yX5_weightOf, Cond.selects RX5 yX5_weightOf yX5_weightOf, Cond.initialized RX5, Cond.code yX5_weightOf cX5_weightOf 2 (some .int), Cond.fieldLink RX5 9 "ParticleLines$Weights" "weights" "[I", Cond.methodLink RX4 88 yX5_putWeight, Cond.instanceMethod yX5_putWeight]
def wsX4_look_r3 : List Cond := [Cond.selects RX5 yX5_putWeight yX5_putWeight, Cond.code yX5_putWeight cX5_putWeight 3 none, Cond.methodLink RX4 91 yX5_reduce, Cond.instanceMethod yX5_reduce, Cond.selects RX5 yX5_reduce yX5_reduce, Cond.code yX5_reduce cX5_reduce 4 (some .boolean), Cond.fieldLink RX5 15 "ParticleLines$Weights" "many" "I", Cond.static yX6_commonDivisor, Cond.code yX6_commonDivisor cX6_commonDivisor 11 (some .long), Cond.methodLink RX4 131 yX5_greatest, Cond.instanceMethod yX5_greatest, Cond.selects RX5 yX5_greatest yX5_greatest, Cond.code yX5_greatest cX5_greatest 3 (some .int), Cond.methodLink RX5 25 Lib.Math.max.name, Cond.methodLink RX4 134 yX5_effectiveCount, Cond.instanceMethod yX5_effectiveCount, Cond.selects RX5 yX5_effectiveCount yX5_effectiveCount, Cond.code yX5_effectiveCount cX5_effectiveCount 8 (some .int), Cond.methodLink RX4 137 yX2_at, Cond.methodLink RX4 140 yX4_renew, Cond.instanceMethod yX4_renew, Cond.selects RX4 yX4_renew yX4_renew, Cond.initialized RX4, Cond.code yX4_renew cX4_renew 5 (some .int)]
def wsX4_look_r4 : List Cond := [Cond.fieldLink RX4 34 "ParticleLines$State" "choice" "LParticleLines$Choice;", Cond.fieldLink RX4 58 "ParticleLines$State" "noise" "I", Cond.fieldLink RX4 65 "ParticleLines$State" "resamplings" "I", Cond.methodLink RX4 79 yX1_generations, Cond.instanceMethod yX1_generations, Cond.selects RX1 yX1_generations yX1_generations, Cond.code yX1_generations cX1_generations 1 (some .int), Cond.methodLink RX4 143 yX0_choose, Cond.instanceMethod yX0_choose, Cond.selects RX0 yX0_choose yX0_choose, Cond.initialized RX0, Cond.code yX0_choose cX0_choose 5 none, Cond.fieldLink RX0 19 "ParticleLines$Choice" "noise" "I", Cond.methodLink RX0 23 yX0_chooseByOffset, Cond.instanceMethod yX0_chooseByOffset, Cond.selects RX0 yX0_chooseByOffset yX0_chooseByOffset, Cond.code yX0_chooseByOffset cX0_chooseByOffset 8 none, Cond.constantLong RX0 40 (100), Cond.fieldLink RX0 9 "ParticleLines$Choice" "ancestors" "[I", Cond.methodLink RX0 34 yX5_sum, Cond.instanceMethod yX5_sum, Cond.selects RX5 yX5_sum yX5_sum, Cond.code yX5_sum cX5_sum 4 (some .long), Cond.methodLink RX0 45 yX5_firstAbove]
def wsX4_look_r5 : List Cond := [Cond.instanceMethod yX5_firstAbove, Cond.selects RX5 yX5_firstAbove yX5_firstAbove, Cond.code yX5_firstAbove cX5_firstAbove 6 (some .int), Cond.methodLink RX0 27 yX0_chooseByNoises, Cond.instanceMethod yX0_chooseByNoises, Cond.selects RX0 yX0_chooseByNoises yX0_chooseByNoises, Cond.code yX0_chooseByNoises cX0_chooseByNoises 5 none, Cond.static yX6_noiseBehind, Cond.code yX6_noiseBehind cX6_noiseBehind 1 (some .int), Cond.constant RX6 145 (65537), Cond.methodLink RX0 31 yX0_chooseByShares, Cond.instanceMethod yX0_chooseByShares, Cond.selects RX0 yX0_chooseByShares yX0_chooseByShares, Cond.code yX0_chooseByShares cX0_chooseByShares 13 none, Cond.fieldLink RX0 15 "ParticleLines$Choice" "rests" "[J", Cond.methodLink RX0 53 yX5_weightOf, Cond.methodLink RX0 56 yX0_restsAheadOf, Cond.instanceMethod yX0_restsAheadOf, Cond.selects RX0 yX0_restsAheadOf yX0_restsAheadOf, Cond.code yX0_restsAheadOf cX0_restsAheadOf 8 (some .int), Cond.methodLink RX4 149 yX1_addResampled, Cond.instanceMethod yX1_addResampled, Cond.selects RX1 yX1_addResampled yX1_addResampled, Cond.code yX1_addResampled cX1_addResampled 2 none]
def wsX4_look_r6 : List Cond := [Cond.fieldLink RX1 23 "ParticleLines$Lineage" "origins" "LParticleLines$Row;", Cond.fieldLink RX1 32 "ParticleLines$Lineage" "schemes" "LParticleLines$Row;", Cond.methodLink RX1 46 yX2_put, Cond.instanceMethod yX2_put, Cond.selects RX2 yX2_put yX2_put, Cond.code yX2_put cX2_put 3 none, Cond.methodLink RX4 152 yX0_chosenFor, Cond.instanceMethod yX0_chosenFor, Cond.selects RX0 yX0_chosenFor yX0_chosenFor, Cond.code yX0_chosenFor cX0_chosenFor 2 (some .int), Cond.methodLink RX4 120 yX1_putParticle, Cond.instanceMethod yX1_putParticle, Cond.selects RX1 yX1_putParticle yX1_putParticle, Cond.code yX1_putParticle cX1_putParticle 5 none, Cond.fieldLink RX1 20 "ParticleLines$Lineage" "parents" "LParticleLines$Row;", Cond.methodLink RX1 54 yX1_latest, Cond.methodLink RX4 155 yX0_noise, Cond.instanceMethod yX0_noise, Cond.selects RX0 yX0_noise yX0_noise, Cond.code yX0_noise cX0_noise 1 (some .int), Cond.methodLink RX4 71 yX5_makeEqual, Cond.instanceMethod yX5_makeEqual, Cond.selects RX5 yX5_makeEqual yX5_makeEqual, Cond.code yX5_makeEqual cX5_makeEqual 3 none]
def wsX4_look_r7 : List Cond := [Cond.methodLink RX5 19 Lib.Math.min.name, Cond.static Lib.Math.min.name, Cond.code Lib.Math.min.name Lib.Math.min.code 2 (some .int), Cond.methodLink RX4 157 yX1_howManyAreAncestors, Cond.instanceMethod yX1_howManyAreAncestors, Cond.selects RX1 yX1_howManyAreAncestors yX1_howManyAreAncestors, Cond.code yX1_howManyAreAncestors cX1_howManyAreAncestors 4 (some .int), Cond.methodLink RX1 61 yX1_ancestorIn, Cond.instanceMethod yX1_ancestorIn, Cond.selects RX1 yX1_ancestorIn yX1_ancestorIn, Cond.code yX1_ancestorIn cX1_ancestorIn 5 (some .int), Cond.methodLink RX1 65 yJ6_bitCount_0f7a4, Cond.static yJ6_bitCount_0f7a4, Cond.initialized RJ6, Cond.code yJ6_bitCount_0f7a4 cJ6_bitCount_0f7a4 1 (some .int), Cond.constant RJ6 265 (1431655765), Cond.constant RJ6 266 (858993459), Cond.constant RJ6 267 (252645135)]
def wsX4_look : List Cond := .code yX4_look cX4_look 5 (some .int) :: ((wsX4_look_r1 ++ (wsX4_look_r2 ++ (wsX4_look_r3 ++ (wsX4_look_r4 ++ (wsX4_look_r5 ++ (wsX4_look_r6 ++ wsX4_look_r7)))))) ++ wsX40 ++ wsX10 ++ wsX20 ++ wsX50 ++ wsX00)
def wsX3_perform_r1 : List Cond := [Cond.fieldLink RX3 32 "ParticleLines$Script" "position" "I", Cond.fieldLink RX3 20 "ParticleLines$Script" "ordersDone" "I", Cond.fieldLink RX3 15 "ParticleLines$Script" "length" "I", Cond.fieldLink RX3 23 "ParticleLines$Script" "start" "I", Cond.fieldLink RX3 26 "ParticleLines$Script" "reason" "I", Cond.fieldLink RX3 29 "ParticleLines$Script" "cause" "I", Cond.fieldLink RX3 39 "ParticleLines$Script" "kind" "I", Cond.fieldLink RX3 42 "ParticleLines$Script" "first" "I", Cond.fieldLink RX3 45 "ParticleLines$Script" "second" "I", Cond.methodLink RX3 35 yX3_readOrder, Cond.instanceMethod yX3_readOrder, Cond.selects RX3 yX3_readOrder yX3_readOrder, Cond.initialized RX3, Cond.code yX3_readOrder cX3_readOrder 1 (some .boolean), Cond.methodLink RX3 61 yX3_here, Cond.instanceMethod yX3_here, Cond.selects RX3 yX3_here yX3_here, Cond.code yX3_here cX3_here 1 (some .int), Cond.fieldLink RX3 9 "ParticleLines$Script" "characters" "[I", Cond.methodLink RX3 64 yX3_readNumbers, Cond.instanceMethod yX3_readNumbers, Cond.selects RX3 yX3_readNumbers yX3_readNumbers, Cond.code yX3_readNumbers cX3_readNumbers 3 (some .boolean), Cond.methodLink RX3 67 yX3_pass]
def wsX3_perform_r2 : List Cond := [Cond.instanceMethod yX3_pass, Cond.selects RX3 yX3_pass yX3_pass, Cond.code yX3_pass cX3_pass 2 (some .boolean), Cond.methodLink RX3 71 yX3_isDigitHere, Cond.instanceMethod yX3_isDigitHere, Cond.selects RX3 yX3_isDigitHere yX3_isDigitHere, Cond.code yX3_isDigitHere cX3_isDigitHere 1 (some .boolean), Cond.static yX6_isWithin, Cond.initialized RX6, Cond.code yX6_isWithin cX6_isWithin 3 (some .boolean), Cond.methodLink RX3 74 yX3_readNumber, Cond.instanceMethod yX3_readNumber, Cond.selects RX3 yX3_readNumber yX3_readNumber, Cond.code yX3_readNumber cX3_readNumber 3 (some .int), Cond.methodLink RX3 48 yX4_shift, Cond.instanceMethod yX4_shift, Cond.selects RX4 yX4_shift yX4_shift, Cond.initialized RX4, Cond.code yX4_shift cX4_shift 6 (some .int), Cond.constant RX4 78 (-1000001), Cond.fieldLink RX4 12 "ParticleLines$State" "lineage" "LParticleLines$Lineage;", Cond.constant RX4 100 (-1000003), Cond.fieldLink RX4 58 "ParticleLines$State" "noise" "I", Cond.methodLink RX4 79 yX1_generations]
def wsX3_perform_r3 : List Cond := [Cond.instanceMethod yX1_generations, Cond.selects RX1 yX1_generations yX1_generations, Cond.initialized RX1, Cond.code yX1_generations cX1_generations 1 (some .int), Cond.fieldLink RX1 39 "ParticleLines$Lineage" "generations" "I", Cond.methodLink RX4 101 yX1_latest, Cond.instanceMethod yX1_latest, Cond.selects RX1 yX1_latest yX1_latest, Cond.code yX1_latest cX1_latest 1 (some .int), Cond.methodLink RX4 104 yX1_addMoved, Cond.instanceMethod yX1_addMoved, Cond.selects RX1 yX1_addMoved yX1_addMoved, Cond.code yX1_addMoved cX1_addMoved 3 none, Cond.fieldLink RX1 23 "ParticleLines$Lineage" "origins" "LParticleLines$Row;", Cond.fieldLink RX1 26 "ParticleLines$Lineage" "drifts" "LParticleLines$Row;", Cond.fieldLink RX1 29 "ParticleLines$Lineage" "spreads" "LParticleLines$Row;", Cond.methodLink RX1 46 yX2_put, Cond.instanceMethod yX2_put, Cond.selects RX2 yX2_put yX2_put, Cond.initialized RX2, Cond.code yX2_put cX2_put 3 none, Cond.fieldLink RX2 13 "ParticleLines$Row" "numbers" "[I", Cond.methodLink RX4 107 yX1_many, Cond.instanceMethod yX1_many]
def wsX3_perform_r4 : List Cond := [Cond.selects RX1 yX1_many yX1_many, Cond.code yX1_many cX1_many 1 (some .int), Cond.fieldLink RX1 35 "ParticleLines$Lineage" "many" "I", Cond.static yX6_noiseBehind, Cond.code yX6_noiseBehind cX6_noiseBehind 1 (some .int), Cond.constant RX6 145 (65537), Cond.methodLink RX4 113 yX1_placeIn, Cond.instanceMethod yX1_placeIn, Cond.selects RX1 yX1_placeIn yX1_placeIn, Cond.code yX1_placeIn cX1_placeIn 3 (some .int), Cond.fieldLink RX1 14 "ParticleLines$Lineage" "places" "LParticleLines$Row;", Cond.methodLink RX1 58 yX2_at, Cond.instanceMethod yX2_at, Cond.selects RX2 yX2_at yX2_at, Cond.code yX2_at cX2_at 2 (some .int), Cond.static yX6_nearestPlace, Cond.code yX6_nearestPlace cX6_nearestPlace 1 (some .int), Cond.methodLink RX6 137 Lib.Math.min.name, Cond.static Lib.Math.min.name, Cond.initialized "java/lang/Math", Cond.code Lib.Math.min.name Lib.Math.min.code 2 (some .int), Cond.methodLink RX6 142 Lib.Math.max.name, Cond.static Lib.Math.max.name, Cond.code Lib.Math.max.name Lib.Math.max.code 2 (some .int)]
def wsX3_perform_r5 : List Cond := [Cond.methodLink RX4 120 yX1_putParticle, Cond.instanceMethod yX1_putParticle, Cond.selects RX1 yX1_putParticle yX1_putParticle, Cond.code yX1_putParticle cX1_putParticle 5 none, Cond.fieldLink RX1 20 "ParticleLines$Lineage" "parents" "LParticleLines$Row;", Cond.methodLink RX1 54 yX1_latest, Cond.methodLink RX3 54 yX4_look, Cond.instanceMethod yX4_look, Cond.selects RX4 yX4_look yX4_look, Cond.code yX4_look cX4_look 5 (some .int), Cond.methodLink RX4 123 Lib.Math.abs.name, Cond.static Lib.Math.abs.name, Cond.code Lib.Math.abs.name Lib.Math.abs.code 1 (some .int), Cond.fieldLink RX4 21 "ParticleLines$State" "weights" "LParticleLines$Weights;", Cond.methodLink RX4 128 Lib.Math.max.name, Cond.constant RX4 95 (-1000002), Cond.constant RX4 87 (1000000), Cond.fieldLink RX4 62 "ParticleLines$State" "observations" "I", Cond.fieldLink RX4 30 "ParticleLines$State" "settings" "LParticleLines$Row;", Cond.methodLink RX4 96 yX5_weightOf, Cond.instanceMethod yX5_weightOf, Cond.selects RX5 yX5_weightOf yX5_weightOf, Cond.initialized RX5, Cond.code yX5_weightOf cX5_weightOf 2 (some .int)]
def wsX3_perform_r6 : List Cond := [Cond.fieldLink RX5 9 "ParticleLines$Weights" "weights" "[I", Cond.methodLink RX4 88 yX5_putWeight, Cond.instanceMethod yX5_putWeight, Cond.selects RX5 yX5_putWeight yX5_putWeight, Cond.code yX5_putWeight cX5_putWeight 3 none, Cond.methodLink RX4 91 yX5_reduce, Cond.instanceMethod yX5_reduce, Cond.selects RX5 yX5_reduce yX5_reduce, Cond.code yX5_reduce cX5_reduce 4 (some .boolean), Cond.fieldLink RX5 15 "ParticleLines$Weights" "many" "I", Cond.static yX6_commonDivisor, Cond.code yX6_commonDivisor cX6_commonDivisor 11 (some .long), Cond.methodLink RX4 131 yX5_greatest, Cond.instanceMethod yX5_greatest, Cond.selects RX5 yX5_greatest yX5_greatest, Cond.code yX5_greatest cX5_greatest 3 (some .int), Cond.methodLink RX5 25 Lib.Math.max.name, Cond.methodLink RX4 134 yX5_effectiveCount, Cond.instanceMethod yX5_effectiveCount, Cond.selects RX5 yX5_effectiveCount yX5_effectiveCount, Cond.code yX5_effectiveCount cX5_effectiveCount 8 (some .int), Cond.methodLink RX4 137 yX2_at, Cond.methodLink RX4 140 yX4_renew, Cond.instanceMethod yX4_renew]
def wsX3_perform_r7 : List Cond := [Cond.selects RX4 yX4_renew yX4_renew, Cond.code yX4_renew cX4_renew 5 (some .int), Cond.fieldLink RX4 34 "ParticleLines$State" "choice" "LParticleLines$Choice;", Cond.fieldLink RX4 65 "ParticleLines$State" "resamplings" "I", Cond.methodLink RX4 143 yX0_choose, Cond.instanceMethod yX0_choose, Cond.selects RX0 yX0_choose yX0_choose, Cond.initialized RX0, Cond.code yX0_choose cX0_choose 5 none, Cond.fieldLink RX0 19 "ParticleLines$Choice" "noise" "I", Cond.methodLink RX0 23 yX0_chooseByOffset, Cond.instanceMethod yX0_chooseByOffset, Cond.selects RX0 yX0_chooseByOffset yX0_chooseByOffset, Cond.code yX0_chooseByOffset cX0_chooseByOffset 8 none, Cond.constantLong RX0 40 (100), Cond.fieldLink RX0 9 "ParticleLines$Choice" "ancestors" "[I", Cond.methodLink RX0 34 yX5_sum, Cond.instanceMethod yX5_sum, Cond.selects RX5 yX5_sum yX5_sum, Cond.code yX5_sum cX5_sum 4 (some .long), Cond.methodLink RX0 45 yX5_firstAbove, Cond.instanceMethod yX5_firstAbove, Cond.selects RX5 yX5_firstAbove yX5_firstAbove, Cond.code yX5_firstAbove cX5_firstAbove 6 (some .int)]
def wsX3_perform_r8 : List Cond := [Cond.methodLink RX0 27 yX0_chooseByNoises, Cond.instanceMethod yX0_chooseByNoises, Cond.selects RX0 yX0_chooseByNoises yX0_chooseByNoises, Cond.code yX0_chooseByNoises cX0_chooseByNoises 5 none, Cond.methodLink RX0 31 yX0_chooseByShares, Cond.instanceMethod yX0_chooseByShares, Cond.selects RX0 yX0_chooseByShares yX0_chooseByShares, Cond.code yX0_chooseByShares cX0_chooseByShares 13 none, Cond.fieldLink RX0 15 "ParticleLines$Choice" "rests" "[J", Cond.methodLink RX0 53 yX5_weightOf, Cond.methodLink RX0 56 yX0_restsAheadOf, Cond.instanceMethod yX0_restsAheadOf, Cond.selects RX0 yX0_restsAheadOf yX0_restsAheadOf, Cond.code yX0_restsAheadOf cX0_restsAheadOf 8 (some .int), Cond.methodLink RX4 149 yX1_addResampled, Cond.instanceMethod yX1_addResampled, Cond.selects RX1 yX1_addResampled yX1_addResampled, Cond.code yX1_addResampled cX1_addResampled 2 none, Cond.fieldLink RX1 32 "ParticleLines$Lineage" "schemes" "LParticleLines$Row;", Cond.methodLink RX4 152 yX0_chosenFor, Cond.instanceMethod yX0_chosenFor, Cond.selects RX0 yX0_chosenFor yX0_chosenFor, Cond.code yX0_chosenFor cX0_chosenFor 2 (some .int), Cond.methodLink RX4 155 yX0_noise]
def wsX3_perform_r9 : List Cond := [Cond.instanceMethod yX0_noise, Cond.selects RX0 yX0_noise yX0_noise, Cond.code yX0_noise cX0_noise 1 (some .int), Cond.methodLink RX4 71 yX5_makeEqual, Cond.instanceMethod yX5_makeEqual, Cond.selects RX5 yX5_makeEqual yX5_makeEqual, Cond.code yX5_makeEqual cX5_makeEqual 3 none, Cond.methodLink RX5 19 Lib.Math.min.name, Cond.methodLink RX4 157 yX1_howManyAreAncestors, Cond.instanceMethod yX1_howManyAreAncestors, Cond.selects RX1 yX1_howManyAreAncestors yX1_howManyAreAncestors, Cond.code yX1_howManyAreAncestors cX1_howManyAreAncestors 4 (some .int), Cond.methodLink RX1 61 yX1_ancestorIn, Cond.instanceMethod yX1_ancestorIn, Cond.selects RX1 yX1_ancestorIn yX1_ancestorIn, Cond.code yX1_ancestorIn cX1_ancestorIn 5 (some .int), Cond.methodLink RX1 65 yJ6_bitCount_0f7a4, Cond.static yJ6_bitCount_0f7a4, Cond.initialized RJ6, Cond.code yJ6_bitCount_0f7a4 cJ6_bitCount_0f7a4 1 (some .int), Cond.constant RJ6 265 (1431655765), Cond.constant RJ6 266 (858993459), Cond.constant RJ6 267 (252645135), Cond.methodLink RX3 57 yX4_renew]
def wsX3_perform : List Cond := .code yX3_perform cX3_perform 4 (some .boolean) :: ((wsX3_perform_r1 ++ (wsX3_perform_r2 ++ (wsX3_perform_r3 ++ (wsX3_perform_r4 ++ (wsX3_perform_r5 ++ (wsX3_perform_r6 ++ (wsX3_perform_r7 ++ (wsX3_perform_r8 ++ wsX3_perform_r9)))))))) ++ wsX30 ++ wsX40 ++ wsX10 ++ wsX20 ++ wsX50 ++ wsX00)
def wsX5_init : List Cond := .code yX5_init cX5_init 1 none :: ([.methodLink RX5 3 objectInit, .instanceMethod objectInit, .code objectInit ⟨#[0xb1]⟩ 1 none, .arrayClass .int, .fieldLink RX5 9 "ParticleLines$Weights" "weights" "[I", .fieldLink RX5 15 "ParticleLines$Weights" "many" "I"] ++ wsX50)
def wsX4_startAnew_r1 : List Cond := [Cond.fieldLink RX4 12 "ParticleLines$State" "lineage" "LParticleLines$Lineage;", Cond.fieldLink RX4 21 "ParticleLines$State" "weights" "LParticleLines$Weights;", Cond.fieldLink RX4 58 "ParticleLines$State" "noise" "I", Cond.fieldLink RX4 62 "ParticleLines$State" "observations" "I", Cond.fieldLink RX4 65 "ParticleLines$State" "resamplings" "I", Cond.methodLink RX4 68 yX1_startWith, Cond.instanceMethod yX1_startWith, Cond.selects RX1 yX1_startWith yX1_startWith, Cond.initialized RX1, Cond.code yX1_startWith cX1_startWith 5 none, Cond.fieldLink RX1 35 "ParticleLines$Lineage" "many" "I", Cond.fieldLink RX1 39 "ParticleLines$Lineage" "generations" "I", Cond.fieldLink RX1 23 "ParticleLines$Lineage" "origins" "LParticleLines$Row;", Cond.fieldLink RX1 14 "ParticleLines$Lineage" "places" "LParticleLines$Row;", Cond.methodLink RX1 46 yX2_put, Cond.instanceMethod yX2_put, Cond.selects RX2 yX2_put yX2_put, Cond.initialized RX2, Cond.code yX2_put cX2_put 3 none, Cond.fieldLink RX2 13 "ParticleLines$Row" "numbers" "[I", Cond.static yX6_nearestPlace, Cond.initialized RX6, Cond.code yX6_nearestPlace cX6_nearestPlace 1 (some .int), Cond.methodLink RX6 137 Lib.Math.min.name]
def wsX4_startAnew_r2 : List Cond := [Cond.static Lib.Math.min.name, Cond.initialized "java/lang/Math", Cond.code Lib.Math.min.name Lib.Math.min.code 2 (some .int), Cond.methodLink RX6 142 Lib.Math.max.name, Cond.static Lib.Math.max.name, Cond.code Lib.Math.max.name Lib.Math.max.code 2 (some .int), Cond.methodLink RX4 71 yX5_makeEqual, Cond.instanceMethod yX5_makeEqual, Cond.selects RX5 yX5_makeEqual yX5_makeEqual, Cond.initialized RX5, Cond.code yX5_makeEqual cX5_makeEqual 3 none, Cond.fieldLink RX5 9 "ParticleLines$Weights" "weights" "[I", Cond.methodLink RX5 19 Lib.Math.min.name, Cond.methodLink RX5 25 Lib.Math.max.name, Cond.fieldLink RX5 15 "ParticleLines$Weights" "many" "I"]
def wsX4_startAnew : List Cond := .code yX4_startAnew cX4_startAnew 4 none :: ((wsX4_startAnew_r1 ++ wsX4_startAnew_r2) ++ wsX40 ++ wsX10 ++ wsX20 ++ wsX50)
def wsX4_init_r1 : List Cond := [Cond.methodLink RX4 3 objectInit, Cond.instanceMethod objectInit, Cond.code objectInit ⟨#[0xb1]⟩ 1 none, Cond.classLink RX4 9 RX1, Cond.instantiable RX1 8, Cond.initialized RX1, Cond.fieldLink RX4 12 "ParticleLines$State" "lineage" "LParticleLines$Lineage;", Cond.classLink RX4 18 RX5, Cond.instantiable RX5 2, Cond.initialized RX5, Cond.fieldLink RX4 21 "ParticleLines$State" "weights" "LParticleLines$Weights;", Cond.classLink RX4 25 RX2, Cond.instantiable RX2 1, Cond.initialized RX2, Cond.fieldLink RX4 30 "ParticleLines$State" "settings" "LParticleLines$Row;", Cond.fieldLink RX4 34 "ParticleLines$State" "choice" "LParticleLines$Choice;", Cond.methodLink RX4 11 yX1_init, Cond.instanceMethod yX1_init, Cond.code yX1_init cX1_init 1 none, Cond.methodLink RX1 3 objectInit, Cond.classLink RX1 9 RX2, Cond.fieldLink RX1 14 "ParticleLines$Lineage" "places" "LParticleLines$Row;", Cond.fieldLink RX1 20 "ParticleLines$Lineage" "parents" "LParticleLines$Row;", Cond.fieldLink RX1 23 "ParticleLines$Lineage" "origins" "LParticleLines$Row;"]
def wsX4_init_r2 : List Cond := [Cond.fieldLink RX1 26 "ParticleLines$Lineage" "drifts" "LParticleLines$Row;", Cond.fieldLink RX1 29 "ParticleLines$Lineage" "spreads" "LParticleLines$Row;", Cond.fieldLink RX1 32 "ParticleLines$Lineage" "schemes" "LParticleLines$Row;", Cond.fieldLink RX1 35 "ParticleLines$Lineage" "many" "I", Cond.fieldLink RX1 39 "ParticleLines$Lineage" "generations" "I", Cond.methodLink RX1 11 yX2_init, Cond.instanceMethod yX2_init, Cond.code yX2_init cX2_init 2 none, Cond.methodLink RX2 1 objectInit, Cond.methodLink RX2 7 Lib.Math.max.name, Cond.static Lib.Math.max.name, Cond.initialized "java/lang/Math", Cond.code Lib.Math.max.name Lib.Math.max.code 2 (some .int), Cond.arrayClass .int, Cond.fieldLink RX2 13 "ParticleLines$Row" "numbers" "[I", Cond.methodLink RX4 20 yX5_init, Cond.instanceMethod yX5_init, Cond.code yX5_init cX5_init 1 none, Cond.methodLink RX5 3 objectInit, Cond.fieldLink RX5 9 "ParticleLines$Weights" "weights" "[I", Cond.fieldLink RX5 15 "ParticleLines$Weights" "many" "I", Cond.methodLink RX4 27 yX2_init, Cond.methodLink RX4 38 yX2_put, Cond.instanceMethod yX2_put]
def wsX4_init_r3 : List Cond := [Cond.selects RX2 yX2_put yX2_put, Cond.code yX2_put cX2_put 3 none, Cond.methodLink RX4 42 yX4_startAnew, Cond.instanceMethod yX4_startAnew, Cond.selects RX4 yX4_startAnew yX4_startAnew, Cond.initialized RX4, Cond.code yX4_startAnew cX4_startAnew 4 none, Cond.fieldLink RX4 58 "ParticleLines$State" "noise" "I", Cond.fieldLink RX4 62 "ParticleLines$State" "observations" "I", Cond.fieldLink RX4 65 "ParticleLines$State" "resamplings" "I", Cond.methodLink RX4 68 yX1_startWith, Cond.instanceMethod yX1_startWith, Cond.selects RX1 yX1_startWith yX1_startWith, Cond.code yX1_startWith cX1_startWith 5 none, Cond.methodLink RX1 46 yX2_put, Cond.static yX6_nearestPlace, Cond.initialized RX6, Cond.code yX6_nearestPlace cX6_nearestPlace 1 (some .int), Cond.methodLink RX6 137 Lib.Math.min.name, Cond.static Lib.Math.min.name, Cond.code Lib.Math.min.name Lib.Math.min.code 2 (some .int), Cond.methodLink RX6 142 Lib.Math.max.name, Cond.methodLink RX4 71 yX5_makeEqual, Cond.instanceMethod yX5_makeEqual]
def wsX4_init_r4 : List Cond := [Cond.selects RX5 yX5_makeEqual yX5_makeEqual, Cond.code yX5_makeEqual cX5_makeEqual 3 none, Cond.methodLink RX5 19 Lib.Math.min.name, Cond.methodLink RX5 25 Lib.Math.max.name]
def wsX4_init : List Cond := .code yX4_init cX4_init 2 none :: ((wsX4_init_r1 ++ (wsX4_init_r2 ++ (wsX4_init_r3 ++ wsX4_init_r4))) ++ wsX10 ++ wsX40 ++ wsX50 ++ wsX20)
def wsX5_copyWeights : List Cond := .code yX5_copyWeights cX5_copyWeights 3 none :: ([.fieldLink RX5 15 "ParticleLines$Weights" "many" "I", .fieldLink RX5 9 "ParticleLines$Weights" "weights" "[I"] ++ wsX50)
def wsX4_copyState_r1 : List Cond := [Cond.fieldLink RX4 12 "ParticleLines$State" "lineage" "LParticleLines$Lineage;", Cond.fieldLink RX4 21 "ParticleLines$State" "weights" "LParticleLines$Weights;", Cond.fieldLink RX4 30 "ParticleLines$State" "settings" "LParticleLines$Row;", Cond.fieldLink RX4 58 "ParticleLines$State" "noise" "I", Cond.fieldLink RX4 62 "ParticleLines$State" "observations" "I", Cond.fieldLink RX4 65 "ParticleLines$State" "resamplings" "I", Cond.methodLink RX4 46 yX1_copyLineage, Cond.instanceMethod yX1_copyLineage, Cond.selects RX1 yX1_copyLineage yX1_copyLineage, Cond.initialized RX1, Cond.code yX1_copyLineage cX1_copyLineage 2 none, Cond.fieldLink RX1 14 "ParticleLines$Lineage" "places" "LParticleLines$Row;", Cond.fieldLink RX1 20 "ParticleLines$Lineage" "parents" "LParticleLines$Row;", Cond.fieldLink RX1 23 "ParticleLines$Lineage" "origins" "LParticleLines$Row;", Cond.fieldLink RX1 26 "ParticleLines$Lineage" "drifts" "LParticleLines$Row;", Cond.fieldLink RX1 29 "ParticleLines$Lineage" "spreads" "LParticleLines$Row;", Cond.fieldLink RX1 32 "ParticleLines$Lineage" "schemes" "LParticleLines$Row;", Cond.fieldLink RX1 35 "ParticleLines$Lineage" "many" "I", Cond.fieldLink RX1 39 "ParticleLines$Lineage" "generations" "I", Cond.methodLink RX1 42 yX2_copyRow, Cond.instanceMethod yX2_copyRow, Cond.selects RX2 yX2_copyRow yX2_copyRow, Cond.initialized RX2, Cond.code yX2_copyRow cX2_copyRow 3 none]
def wsX4_copyState_r2 : List Cond := [Cond.fieldLink RX2 13 "ParticleLines$Row" "numbers" "[I", Cond.methodLink RX4 50 yX5_copyWeights, Cond.instanceMethod yX5_copyWeights, Cond.selects RX5 yX5_copyWeights yX5_copyWeights, Cond.initialized RX5, Cond.code yX5_copyWeights cX5_copyWeights 3 none, Cond.fieldLink RX5 15 "ParticleLines$Weights" "many" "I", Cond.fieldLink RX5 9 "ParticleLines$Weights" "weights" "[I", Cond.methodLink RX4 54 yX2_copyRow]
def wsX4_copyState : List Cond := .code yX4_copyState cX4_copyState 2 none :: ((wsX4_copyState_r1 ++ wsX4_copyState_r2) ++ wsX40 ++ wsX10 ++ wsX20 ++ wsX50)
def wsX4_beginAnew_r1 : List Cond := [Cond.constant RX4 78 (-1000001), Cond.fieldLink RX4 12 "ParticleLines$State" "lineage" "LParticleLines$Lineage;", Cond.static yX6_isWithin, Cond.initialized RX6, Cond.code yX6_isWithin cX6_isWithin 3 (some .boolean), Cond.methodLink RX4 79 yX1_generations, Cond.instanceMethod yX1_generations, Cond.selects RX1 yX1_generations yX1_generations, Cond.initialized RX1, Cond.code yX1_generations cX1_generations 1 (some .int), Cond.fieldLink RX1 39 "ParticleLines$Lineage" "generations" "I", Cond.methodLink RX4 42 yX4_startAnew, Cond.instanceMethod yX4_startAnew, Cond.selects RX4 yX4_startAnew yX4_startAnew, Cond.initialized RX4, Cond.code yX4_startAnew cX4_startAnew 4 none, Cond.fieldLink RX4 21 "ParticleLines$State" "weights" "LParticleLines$Weights;", Cond.fieldLink RX4 58 "ParticleLines$State" "noise" "I", Cond.fieldLink RX4 62 "ParticleLines$State" "observations" "I", Cond.fieldLink RX4 65 "ParticleLines$State" "resamplings" "I", Cond.methodLink RX4 68 yX1_startWith, Cond.instanceMethod yX1_startWith, Cond.selects RX1 yX1_startWith yX1_startWith, Cond.code yX1_startWith cX1_startWith 5 none]
def wsX4_beginAnew_r2 : List Cond := [Cond.fieldLink RX1 35 "ParticleLines$Lineage" "many" "I", Cond.fieldLink RX1 23 "ParticleLines$Lineage" "origins" "LParticleLines$Row;", Cond.fieldLink RX1 14 "ParticleLines$Lineage" "places" "LParticleLines$Row;", Cond.methodLink RX1 46 yX2_put, Cond.instanceMethod yX2_put, Cond.selects RX2 yX2_put yX2_put, Cond.initialized RX2, Cond.code yX2_put cX2_put 3 none, Cond.fieldLink RX2 13 "ParticleLines$Row" "numbers" "[I", Cond.static yX6_nearestPlace, Cond.code yX6_nearestPlace cX6_nearestPlace 1 (some .int), Cond.methodLink RX6 137 Lib.Math.min.name, Cond.static Lib.Math.min.name, Cond.initialized "java/lang/Math", Cond.code Lib.Math.min.name Lib.Math.min.code 2 (some .int), Cond.methodLink RX6 142 Lib.Math.max.name, Cond.static Lib.Math.max.name, Cond.code Lib.Math.max.name Lib.Math.max.code 2 (some .int), Cond.methodLink RX4 71 yX5_makeEqual, Cond.instanceMethod yX5_makeEqual, Cond.selects RX5 yX5_makeEqual yX5_makeEqual, Cond.initialized RX5, Cond.code yX5_makeEqual cX5_makeEqual 3 none, Cond.fieldLink RX5 9 "ParticleLines$Weights" "weights" "[I"]
def wsX4_beginAnew_r3 : List Cond := [Cond.methodLink RX5 19 Lib.Math.min.name, Cond.methodLink RX5 25 Lib.Math.max.name, Cond.fieldLink RX5 15 "ParticleLines$Weights" "many" "I"]
def wsX4_beginAnew : List Cond := .code yX4_beginAnew cX4_beginAnew 5 (some .int) :: ((wsX4_beginAnew_r1 ++ (wsX4_beginAnew_r2 ++ wsX4_beginAnew_r3)) ++ wsX40 ++ wsX10 ++ wsX20 ++ wsX50)
def wsX4_hasParticle : List Cond := .code yX4_hasParticle cX4_hasParticle 2 (some .boolean) :: ([.fieldLink RX4 12 "ParticleLines$State" "lineage" "LParticleLines$Lineage;", .methodLink RX4 107 yX1_many, .instanceMethod yX1_many, .selects RX1 yX1_many yX1_many, .initialized RX1, .code yX1_many cX1_many 1 (some .int), .fieldLink RX1 35 "ParticleLines$Lineage" "many" "I", .static yX6_isWithin, .initialized RX6, .code yX6_isWithin cX6_isWithin 3 (some .boolean)] ++ wsX40 ++ wsX10)
def wsX4_changeWeight_r1 : List Cond := [Cond.constant RX4 87 (1000000), Cond.constant RX4 78 (-1000001), Cond.fieldLink RX4 21 "ParticleLines$State" "weights" "LParticleLines$Weights;", Cond.constant RX4 95 (-1000002), Cond.methodLink RX4 83 yX4_hasParticle, Cond.instanceMethod yX4_hasParticle, Cond.selects RX4 yX4_hasParticle yX4_hasParticle, Cond.initialized RX4, Cond.code yX4_hasParticle cX4_hasParticle 2 (some .boolean), Cond.fieldLink RX4 12 "ParticleLines$State" "lineage" "LParticleLines$Lineage;", Cond.methodLink RX4 107 yX1_many, Cond.instanceMethod yX1_many, Cond.selects RX1 yX1_many yX1_many, Cond.initialized RX1, Cond.code yX1_many cX1_many 1 (some .int), Cond.fieldLink RX1 35 "ParticleLines$Lineage" "many" "I", Cond.static yX6_isWithin, Cond.initialized RX6, Cond.code yX6_isWithin cX6_isWithin 3 (some .boolean), Cond.methodLink RX4 88 yX5_putWeight, Cond.instanceMethod yX5_putWeight, Cond.selects RX5 yX5_putWeight yX5_putWeight, Cond.initialized RX5, Cond.code yX5_putWeight cX5_putWeight 3 none]
def wsX4_changeWeight_r2 : List Cond := [Cond.fieldLink RX5 9 "ParticleLines$Weights" "weights" "[I", Cond.methodLink RX4 91 yX5_reduce, Cond.instanceMethod yX5_reduce, Cond.selects RX5 yX5_reduce yX5_reduce, Cond.code yX5_reduce cX5_reduce 4 (some .boolean), Cond.fieldLink RX5 15 "ParticleLines$Weights" "many" "I", Cond.static yX6_commonDivisor, Cond.code yX6_commonDivisor cX6_commonDivisor 11 (some .long), Cond.methodLink RX4 96 yX5_weightOf, Cond.instanceMethod yX5_weightOf, Cond.selects RX5 yX5_weightOf yX5_weightOf, Cond.code yX5_weightOf cX5_weightOf 2 (some .int)]
def wsX4_changeWeight : List Cond := .code yX4_changeWeight cX4_changeWeight 3 (some .int) :: ((wsX4_changeWeight_r1 ++ wsX4_changeWeight_r2) ++ wsX40 ++ wsX10 ++ wsX50)
def wsX4_greatestSetting : List Cond := .code yX4_greatestSetting cX4_greatestSetting 1 (some .int) :: ([])
def wsX4_putSetting : List Cond := .code yX4_putSetting cX4_putSetting 4 (some .int) :: ([.constant RX4 78 (-1000001), .fieldLink RX4 30 "ParticleLines$State" "settings" "LParticleLines$Row;", .static yX6_isWithin, .initialized RX6, .code yX6_isWithin cX6_isWithin 3 (some .boolean), .methodLink RX4 160 yX4_greatestSetting, .static yX4_greatestSetting, .initialized RX4, .code yX4_greatestSetting cX4_greatestSetting 1 (some .int), .methodLink RX4 137 yX2_at, .instanceMethod yX2_at, .selects RX2 yX2_at yX2_at, .initialized RX2, .code yX2_at cX2_at 2 (some .int), .fieldLink RX2 13 "ParticleLines$Row" "numbers" "[I", .methodLink RX4 38 yX2_put, .instanceMethod yX2_put, .selects RX2 yX2_put yX2_put, .code yX2_put cX2_put 3 none] ++ wsX40 ++ wsX20)
def wsX4_hasGeneration : List Cond := .code yX4_hasGeneration cX4_hasGeneration 2 (some .boolean) :: ([.fieldLink RX4 12 "ParticleLines$State" "lineage" "LParticleLines$Lineage;", .methodLink RX4 101 yX1_latest, .instanceMethod yX1_latest, .selects RX1 yX1_latest yX1_latest, .initialized RX1, .code yX1_latest cX1_latest 1 (some .int), .fieldLink RX1 39 "ParticleLines$Lineage" "generations" "I", .static yX6_isWithin, .initialized RX6, .code yX6_isWithin cX6_isWithin 3 (some .boolean)] ++ wsX40 ++ wsX10)
def wsX6_partInLowestTerms : List Cond := .code yX6_partInLowestTerms cX6_partInLowestTerms 7 (some .int) :: ([.methodLink RX6 146 yX6_commonDivisor, .static yX6_commonDivisor, .initialized RX6, .code yX6_commonDivisor cX6_commonDivisor 11 (some .long)])
def wsX5_howManyAheadOf : List Cond := .code yX5_howManyAheadOf cX5_howManyAheadOf 5 (some .int) :: ([.fieldLink RX5 15 "ParticleLines$Weights" "many" "I", .fieldLink RX5 9 "ParticleLines$Weights" "weights" "[I", .methodLink RX5 32 yX5_weightOf, .instanceMethod yX5_weightOf, .selects RX5 yX5_weightOf yX5_weightOf, .initialized RX5, .code yX5_weightOf cX5_weightOf 2 (some .int)] ++ wsX50)
def wsX4_tellOfParticle_r1 : List Cond := [Cond.fieldLink RX4 12 "ParticleLines$State" "lineage" "LParticleLines$Lineage;", Cond.fieldLink RX4 21 "ParticleLines$State" "weights" "LParticleLines$Weights;", Cond.constant RX4 163 (-1000004), Cond.methodLink RX4 101 yX1_latest, Cond.instanceMethod yX1_latest, Cond.selects RX1 yX1_latest yX1_latest, Cond.initialized RX1, Cond.code yX1_latest cX1_latest 1 (some .int), Cond.fieldLink RX1 39 "ParticleLines$Lineage" "generations" "I", Cond.methodLink RX4 113 yX1_placeIn, Cond.instanceMethod yX1_placeIn, Cond.selects RX1 yX1_placeIn yX1_placeIn, Cond.code yX1_placeIn cX1_placeIn 3 (some .int), Cond.fieldLink RX1 14 "ParticleLines$Lineage" "places" "LParticleLines$Row;", Cond.methodLink RX1 58 yX2_at, Cond.instanceMethod yX2_at, Cond.selects RX2 yX2_at yX2_at, Cond.initialized RX2, Cond.code yX2_at cX2_at 2 (some .int), Cond.fieldLink RX2 13 "ParticleLines$Row" "numbers" "[I", Cond.methodLink RX4 96 yX5_weightOf, Cond.instanceMethod yX5_weightOf, Cond.selects RX5 yX5_weightOf yX5_weightOf, Cond.initialized RX5]
def wsX4_tellOfParticle_r2 : List Cond := [Cond.code yX5_weightOf cX5_weightOf 2 (some .int), Cond.fieldLink RX5 9 "ParticleLines$Weights" "weights" "[I", Cond.methodLink RX4 164 yX1_parentIn, Cond.instanceMethod yX1_parentIn, Cond.selects RX1 yX1_parentIn yX1_parentIn, Cond.code yX1_parentIn cX1_parentIn 3 (some .int), Cond.fieldLink RX1 20 "ParticleLines$Lineage" "parents" "LParticleLines$Row;", Cond.methodLink RX4 167 yX1_howManyAt, Cond.instanceMethod yX1_howManyAt, Cond.selects RX1 yX1_howManyAt yX1_howManyAt, Cond.code yX1_howManyAt cX1_howManyAt 5 (some .int), Cond.fieldLink RX1 35 "ParticleLines$Lineage" "many" "I", Cond.methodLink RX1 70 yX1_placeIn, Cond.methodLink RX4 170 yX5_sum, Cond.instanceMethod yX5_sum, Cond.selects RX5 yX5_sum yX5_sum, Cond.code yX5_sum cX5_sum 4 (some .long), Cond.fieldLink RX5 15 "ParticleLines$Weights" "many" "I", Cond.static yX6_partInLowestTerms, Cond.initialized RX6, Cond.code yX6_partInLowestTerms cX6_partInLowestTerms 7 (some .int), Cond.methodLink RX6 146 yX6_commonDivisor, Cond.static yX6_commonDivisor, Cond.code yX6_commonDivisor cX6_commonDivisor 11 (some .long)]
def wsX4_tellOfParticle_r3 : List Cond := [Cond.methodLink RX4 178 yX5_howManyAheadOf, Cond.instanceMethod yX5_howManyAheadOf, Cond.selects RX5 yX5_howManyAheadOf yX5_howManyAheadOf, Cond.code yX5_howManyAheadOf cX5_howManyAheadOf 5 (some .int), Cond.methodLink RX5 32 yX5_weightOf]
def wsX4_tellOfParticle : List Cond := .code yX4_tellOfParticle cX4_tellOfParticle 6 (some .int) :: ((wsX4_tellOfParticle_r1 ++ (wsX4_tellOfParticle_r2 ++ wsX4_tellOfParticle_r3)) ++ wsX40 ++ wsX10 ++ wsX20 ++ wsX50)
def wsX4_tellOfGeneration_r1 : List Cond := [Cond.fieldLink RX4 12 "ParticleLines$State" "lineage" "LParticleLines$Lineage;", Cond.constant RX4 163 (-1000004), Cond.methodLink RX4 181 yX1_originOf, Cond.instanceMethod yX1_originOf, Cond.selects RX1 yX1_originOf yX1_originOf, Cond.initialized RX1, Cond.code yX1_originOf cX1_originOf 2 (some .int), Cond.fieldLink RX1 23 "ParticleLines$Lineage" "origins" "LParticleLines$Row;", Cond.methodLink RX1 58 yX2_at, Cond.instanceMethod yX2_at, Cond.selects RX2 yX2_at yX2_at, Cond.initialized RX2, Cond.code yX2_at cX2_at 2 (some .int), Cond.fieldLink RX2 13 "ParticleLines$Row" "numbers" "[I", Cond.methodLink RX4 184 yX1_driftOf, Cond.instanceMethod yX1_driftOf, Cond.selects RX1 yX1_driftOf yX1_driftOf, Cond.code yX1_driftOf cX1_driftOf 2 (some .int), Cond.fieldLink RX1 26 "ParticleLines$Lineage" "drifts" "LParticleLines$Row;", Cond.methodLink RX4 187 yX1_spreadOf, Cond.instanceMethod yX1_spreadOf, Cond.selects RX1 yX1_spreadOf yX1_spreadOf, Cond.code yX1_spreadOf cX1_spreadOf 2 (some .int), Cond.fieldLink RX1 29 "ParticleLines$Lineage" "spreads" "LParticleLines$Row;"]
def wsX4_tellOfGeneration_r2 : List Cond := [Cond.methodLink RX4 190 yX1_schemeOf, Cond.instanceMethod yX1_schemeOf, Cond.selects RX1 yX1_schemeOf yX1_schemeOf, Cond.code yX1_schemeOf cX1_schemeOf 2 (some .int), Cond.fieldLink RX1 32 "ParticleLines$Lineage" "schemes" "LParticleLines$Row;", Cond.methodLink RX4 157 yX1_howManyAreAncestors, Cond.instanceMethod yX1_howManyAreAncestors, Cond.selects RX1 yX1_howManyAreAncestors yX1_howManyAreAncestors, Cond.code yX1_howManyAreAncestors cX1_howManyAreAncestors 4 (some .int), Cond.fieldLink RX1 35 "ParticleLines$Lineage" "many" "I", Cond.methodLink RX1 61 yX1_ancestorIn, Cond.instanceMethod yX1_ancestorIn, Cond.selects RX1 yX1_ancestorIn yX1_ancestorIn, Cond.code yX1_ancestorIn cX1_ancestorIn 5 (some .int), Cond.fieldLink RX1 20 "ParticleLines$Lineage" "parents" "LParticleLines$Row;", Cond.methodLink RX1 54 yX1_latest, Cond.instanceMethod yX1_latest, Cond.selects RX1 yX1_latest yX1_latest, Cond.code yX1_latest cX1_latest 1 (some .int), Cond.fieldLink RX1 39 "ParticleLines$Lineage" "generations" "I", Cond.methodLink RX1 65 yJ6_bitCount_0f7a4, Cond.static yJ6_bitCount_0f7a4, Cond.initialized RJ6, Cond.code yJ6_bitCount_0f7a4 cJ6_bitCount_0f7a4 1 (some .int)]
def wsX4_tellOfGeneration_r3 : List Cond := [Cond.constant RJ6 265 (1431655765), Cond.constant RJ6 266 (858993459), Cond.constant RJ6 267 (252645135), Cond.methodLink RX4 193 yX1_howManyUnlikePlaces, Cond.instanceMethod yX1_howManyUnlikePlaces, Cond.selects RX1 yX1_howManyUnlikePlaces yX1_howManyUnlikePlaces, Cond.code yX1_howManyUnlikePlaces cX1_howManyUnlikePlaces 4 (some .int), Cond.methodLink RX1 73 yX1_isFirstAtItsPlace, Cond.instanceMethod yX1_isFirstAtItsPlace, Cond.selects RX1 yX1_isFirstAtItsPlace yX1_isFirstAtItsPlace, Cond.code yX1_isFirstAtItsPlace cX1_isFirstAtItsPlace 5 (some .boolean), Cond.methodLink RX1 70 yX1_placeIn, Cond.instanceMethod yX1_placeIn, Cond.selects RX1 yX1_placeIn yX1_placeIn, Cond.code yX1_placeIn cX1_placeIn 3 (some .int), Cond.fieldLink RX1 14 "ParticleLines$Lineage" "places" "LParticleLines$Row;"]
def wsX4_tellOfGeneration : List Cond := .code yX4_tellOfGeneration cX4_tellOfGeneration 4 (some .int) :: ((wsX4_tellOfGeneration_r1 ++ (wsX4_tellOfGeneration_r2 ++ wsX4_tellOfGeneration_r3)) ++ wsX40 ++ wsX10 ++ wsX20)
def wsX4_tellOfAncestor : List Cond := .code yX4_tellOfAncestor cX4_tellOfAncestor 5 (some .int) :: ([.fieldLink RX4 12 "ParticleLines$State" "lineage" "LParticleLines$Lineage;", .methodLink RX4 196 yX1_ancestorIn, .instanceMethod yX1_ancestorIn, .selects RX1 yX1_ancestorIn yX1_ancestorIn, .initialized RX1, .code yX1_ancestorIn cX1_ancestorIn 5 (some .int), .fieldLink RX1 20 "ParticleLines$Lineage" "parents" "LParticleLines$Row;", .methodLink RX1 54 yX1_latest, .instanceMethod yX1_latest, .selects RX1 yX1_latest yX1_latest, .code yX1_latest cX1_latest 1 (some .int), .fieldLink RX1 39 "ParticleLines$Lineage" "generations" "I", .methodLink RX1 58 yX2_at, .instanceMethod yX2_at, .selects RX2 yX2_at yX2_at, .initialized RX2, .code yX2_at cX2_at 2 (some .int), .fieldLink RX2 13 "ParticleLines$Row" "numbers" "[I", .methodLink RX4 113 yX1_placeIn, .instanceMethod yX1_placeIn, .selects RX1 yX1_placeIn yX1_placeIn, .code yX1_placeIn cX1_placeIn 3 (some .int), .fieldLink RX1 14 "ParticleLines$Lineage" "places" "LParticleLines$Row;"] ++ wsX40 ++ wsX10 ++ wsX20)
def wsX4_meetingOfTwo : List Cond := .code yX4_meetingOfTwo cX4_meetingOfTwo 3 (some .int) :: ([.fieldLink RX4 12 "ParticleLines$State" "lineage" "LParticleLines$Lineage;", .methodLink RX4 199 yX1_meetingOf, .instanceMethod yX1_meetingOf, .selects RX1 yX1_meetingOf yX1_meetingOf, .initialized RX1, .code yX1_meetingOf cX1_meetingOf 6 (some .int), .constant RX1 80 (-1000004), .methodLink RX1 54 yX1_latest, .instanceMethod yX1_latest, .selects RX1 yX1_latest yX1_latest, .code yX1_latest cX1_latest 1 (some .int), .fieldLink RX1 39 "ParticleLines$Lineage" "generations" "I", .methodLink RX1 77 yX1_parentIn, .instanceMethod yX1_parentIn, .selects RX1 yX1_parentIn yX1_parentIn, .code yX1_parentIn cX1_parentIn 3 (some .int), .fieldLink RX1 20 "ParticleLines$Lineage" "parents" "LParticleLines$Row;", .methodLink RX1 58 yX2_at, .instanceMethod yX2_at, .selects RX2 yX2_at yX2_at, .initialized RX2, .code yX2_at cX2_at 2 (some .int), .fieldLink RX2 13 "ParticleLines$Row" "numbers" "[I"] ++ wsX40 ++ wsX10 ++ wsX20)
def wsX4_meetingOfAll_r1 : List Cond := [Cond.fieldLink RX4 12 "ParticleLines$State" "lineage" "LParticleLines$Lineage;", Cond.methodLink RX4 202 Lib.Math.min.name, Cond.static Lib.Math.min.name, Cond.initialized "java/lang/Math", Cond.code Lib.Math.min.name Lib.Math.min.code 2 (some .int), Cond.methodLink RX4 101 yX1_latest, Cond.instanceMethod yX1_latest, Cond.selects RX1 yX1_latest yX1_latest, Cond.initialized RX1, Cond.code yX1_latest cX1_latest 1 (some .int), Cond.fieldLink RX1 39 "ParticleLines$Lineage" "generations" "I", Cond.methodLink RX4 107 yX1_many, Cond.instanceMethod yX1_many, Cond.selects RX1 yX1_many yX1_many, Cond.code yX1_many cX1_many 1 (some .int), Cond.fieldLink RX1 35 "ParticleLines$Lineage" "many" "I", Cond.methodLink RX4 199 yX1_meetingOf, Cond.instanceMethod yX1_meetingOf, Cond.selects RX1 yX1_meetingOf yX1_meetingOf, Cond.code yX1_meetingOf cX1_meetingOf 6 (some .int), Cond.constant RX1 80 (-1000004), Cond.methodLink RX1 54 yX1_latest, Cond.methodLink RX1 77 yX1_parentIn, Cond.instanceMethod yX1_parentIn]
def wsX4_meetingOfAll_r2 : List Cond := [Cond.selects RX1 yX1_parentIn yX1_parentIn, Cond.code yX1_parentIn cX1_parentIn 3 (some .int), Cond.fieldLink RX1 20 "ParticleLines$Lineage" "parents" "LParticleLines$Row;", Cond.methodLink RX1 58 yX2_at, Cond.instanceMethod yX2_at, Cond.selects RX2 yX2_at yX2_at, Cond.initialized RX2, Cond.code yX2_at cX2_at 2 (some .int), Cond.fieldLink RX2 13 "ParticleLines$Row" "numbers" "[I"]
def wsX4_meetingOfAll : List Cond := .code yX4_meetingOfAll cX4_meetingOfAll 3 (some .int) :: ((wsX4_meetingOfAll_r1 ++ wsX4_meetingOfAll_r2) ++ wsX40 ++ wsX10 ++ wsX20)
def wsX4_partOfMean_r1 : List Cond := [Cond.fieldLink RX4 12 "ParticleLines$State" "lineage" "LParticleLines$Lineage;", Cond.fieldLink RX4 21 "ParticleLines$State" "weights" "LParticleLines$Weights;", Cond.methodLink RX4 107 yX1_many, Cond.instanceMethod yX1_many, Cond.selects RX1 yX1_many yX1_many, Cond.initialized RX1, Cond.code yX1_many cX1_many 1 (some .int), Cond.fieldLink RX1 35 "ParticleLines$Lineage" "many" "I", Cond.methodLink RX4 196 yX1_ancestorIn, Cond.instanceMethod yX1_ancestorIn, Cond.selects RX1 yX1_ancestorIn yX1_ancestorIn, Cond.code yX1_ancestorIn cX1_ancestorIn 5 (some .int), Cond.fieldLink RX1 20 "ParticleLines$Lineage" "parents" "LParticleLines$Row;", Cond.methodLink RX1 54 yX1_latest, Cond.instanceMethod yX1_latest, Cond.selects RX1 yX1_latest yX1_latest, Cond.code yX1_latest cX1_latest 1 (some .int), Cond.fieldLink RX1 39 "ParticleLines$Lineage" "generations" "I", Cond.methodLink RX1 58 yX2_at, Cond.instanceMethod yX2_at, Cond.selects RX2 yX2_at yX2_at, Cond.initialized RX2, Cond.code yX2_at cX2_at 2 (some .int), Cond.fieldLink RX2 13 "ParticleLines$Row" "numbers" "[I"]
def wsX4_partOfMean_r2 : List Cond := [Cond.methodLink RX4 113 yX1_placeIn, Cond.instanceMethod yX1_placeIn, Cond.selects RX1 yX1_placeIn yX1_placeIn, Cond.code yX1_placeIn cX1_placeIn 3 (some .int), Cond.fieldLink RX1 14 "ParticleLines$Lineage" "places" "LParticleLines$Row;", Cond.methodLink RX4 96 yX5_weightOf, Cond.instanceMethod yX5_weightOf, Cond.selects RX5 yX5_weightOf yX5_weightOf, Cond.initialized RX5, Cond.code yX5_weightOf cX5_weightOf 2 (some .int), Cond.fieldLink RX5 9 "ParticleLines$Weights" "weights" "[I", Cond.methodLink RX4 170 yX5_sum, Cond.instanceMethod yX5_sum, Cond.selects RX5 yX5_sum yX5_sum, Cond.code yX5_sum cX5_sum 4 (some .long), Cond.fieldLink RX5 15 "ParticleLines$Weights" "many" "I", Cond.static yX6_partInLowestTerms, Cond.initialized RX6, Cond.code yX6_partInLowestTerms cX6_partInLowestTerms 7 (some .int), Cond.methodLink RX6 146 yX6_commonDivisor, Cond.static yX6_commonDivisor, Cond.code yX6_commonDivisor cX6_commonDivisor 11 (some .long)]
def wsX4_partOfMean : List Cond := .code yX4_partOfMean cX4_partOfMean 8 (some .int) :: ((wsX4_partOfMean_r1 ++ wsX4_partOfMean_r2) ++ wsX40 ++ wsX10 ++ wsX20 ++ wsX50)
def wsX4_partOfShare_r1 : List Cond := [Cond.fieldLink RX4 12 "ParticleLines$State" "lineage" "LParticleLines$Lineage;", Cond.fieldLink RX4 21 "ParticleLines$State" "weights" "LParticleLines$Weights;", Cond.methodLink RX4 107 yX1_many, Cond.instanceMethod yX1_many, Cond.selects RX1 yX1_many yX1_many, Cond.initialized RX1, Cond.code yX1_many cX1_many 1 (some .int), Cond.fieldLink RX1 35 "ParticleLines$Lineage" "many" "I", Cond.methodLink RX4 196 yX1_ancestorIn, Cond.instanceMethod yX1_ancestorIn, Cond.selects RX1 yX1_ancestorIn yX1_ancestorIn, Cond.code yX1_ancestorIn cX1_ancestorIn 5 (some .int), Cond.fieldLink RX1 20 "ParticleLines$Lineage" "parents" "LParticleLines$Row;", Cond.methodLink RX1 54 yX1_latest, Cond.instanceMethod yX1_latest, Cond.selects RX1 yX1_latest yX1_latest, Cond.code yX1_latest cX1_latest 1 (some .int), Cond.fieldLink RX1 39 "ParticleLines$Lineage" "generations" "I", Cond.methodLink RX1 58 yX2_at, Cond.instanceMethod yX2_at, Cond.selects RX2 yX2_at yX2_at, Cond.initialized RX2, Cond.code yX2_at cX2_at 2 (some .int), Cond.fieldLink RX2 13 "ParticleLines$Row" "numbers" "[I"]
def wsX4_partOfShare_r2 : List Cond := [Cond.methodLink RX4 113 yX1_placeIn, Cond.instanceMethod yX1_placeIn, Cond.selects RX1 yX1_placeIn yX1_placeIn, Cond.code yX1_placeIn cX1_placeIn 3 (some .int), Cond.fieldLink RX1 14 "ParticleLines$Lineage" "places" "LParticleLines$Row;", Cond.static yX6_isWithin, Cond.initialized RX6, Cond.code yX6_isWithin cX6_isWithin 3 (some .boolean), Cond.methodLink RX4 96 yX5_weightOf, Cond.instanceMethod yX5_weightOf, Cond.selects RX5 yX5_weightOf yX5_weightOf, Cond.initialized RX5, Cond.code yX5_weightOf cX5_weightOf 2 (some .int), Cond.fieldLink RX5 9 "ParticleLines$Weights" "weights" "[I", Cond.methodLink RX4 170 yX5_sum, Cond.instanceMethod yX5_sum, Cond.selects RX5 yX5_sum yX5_sum, Cond.code yX5_sum cX5_sum 4 (some .long), Cond.fieldLink RX5 15 "ParticleLines$Weights" "many" "I", Cond.static yX6_partInLowestTerms, Cond.code yX6_partInLowestTerms cX6_partInLowestTerms 7 (some .int), Cond.methodLink RX6 146 yX6_commonDivisor, Cond.static yX6_commonDivisor, Cond.code yX6_commonDivisor cX6_commonDivisor 11 (some .long)]
def wsX4_partOfShare : List Cond := .code yX4_partOfShare cX4_partOfShare 9 (some .int) :: ((wsX4_partOfShare_r1 ++ wsX4_partOfShare_r2) ++ wsX40 ++ wsX10 ++ wsX20 ++ wsX50)
def wsX4_chosenBy_r1 : List Cond := [Cond.fieldLink RX4 34 "ParticleLines$State" "choice" "LParticleLines$Choice;", Cond.fieldLink RX4 21 "ParticleLines$State" "weights" "LParticleLines$Weights;", Cond.fieldLink RX4 30 "ParticleLines$State" "settings" "LParticleLines$Row;", Cond.fieldLink RX4 58 "ParticleLines$State" "noise" "I", Cond.methodLink RX4 137 yX2_at, Cond.instanceMethod yX2_at, Cond.selects RX2 yX2_at yX2_at, Cond.initialized RX2, Cond.code yX2_at cX2_at 2 (some .int), Cond.fieldLink RX2 13 "ParticleLines$Row" "numbers" "[I", Cond.methodLink RX4 143 yX0_choose, Cond.instanceMethod yX0_choose, Cond.selects RX0 yX0_choose yX0_choose, Cond.initialized RX0, Cond.code yX0_choose cX0_choose 5 none, Cond.fieldLink RX0 19 "ParticleLines$Choice" "noise" "I", Cond.methodLink RX0 23 yX0_chooseByOffset, Cond.instanceMethod yX0_chooseByOffset, Cond.selects RX0 yX0_chooseByOffset yX0_chooseByOffset, Cond.code yX0_chooseByOffset cX0_chooseByOffset 8 none, Cond.constantLong RX0 40 (100), Cond.fieldLink RX0 9 "ParticleLines$Choice" "ancestors" "[I", Cond.methodLink RX0 34 yX5_sum, Cond.instanceMethod yX5_sum]
def wsX4_chosenBy_r2 : List Cond := [Cond.selects RX5 yX5_sum yX5_sum, Cond.initialized RX5, Cond.code yX5_sum cX5_sum 4 (some .long), Cond.fieldLink RX5 15 "ParticleLines$Weights" "many" "I", Cond.fieldLink RX5 9 "ParticleLines$Weights" "weights" "[I", Cond.methodLink RX0 45 yX5_firstAbove, Cond.instanceMethod yX5_firstAbove, Cond.selects RX5 yX5_firstAbove yX5_firstAbove, Cond.code yX5_firstAbove cX5_firstAbove 6 (some .int), Cond.methodLink RX0 27 yX0_chooseByNoises, Cond.instanceMethod yX0_chooseByNoises, Cond.selects RX0 yX0_chooseByNoises yX0_chooseByNoises, Cond.code yX0_chooseByNoises cX0_chooseByNoises 5 none, Cond.static yX6_noiseBehind, Cond.initialized RX6, Cond.code yX6_noiseBehind cX6_noiseBehind 1 (some .int), Cond.constant RX6 145 (65537), Cond.methodLink RX0 31 yX0_chooseByShares, Cond.instanceMethod yX0_chooseByShares, Cond.selects RX0 yX0_chooseByShares yX0_chooseByShares, Cond.code yX0_chooseByShares cX0_chooseByShares 13 none, Cond.fieldLink RX0 15 "ParticleLines$Choice" "rests" "[J", Cond.methodLink RX0 53 yX5_weightOf, Cond.instanceMethod yX5_weightOf]
def wsX4_chosenBy_r3 : List Cond := [Cond.selects RX5 yX5_weightOf yX5_weightOf, Cond.code yX5_weightOf cX5_weightOf 2 (some .int), Cond.methodLink RX0 56 yX0_restsAheadOf, Cond.instanceMethod yX0_restsAheadOf, Cond.selects RX0 yX0_restsAheadOf yX0_restsAheadOf, Cond.code yX0_restsAheadOf cX0_restsAheadOf 8 (some .int), Cond.methodLink RX4 152 yX0_chosenFor, Cond.instanceMethod yX0_chosenFor, Cond.selects RX0 yX0_chosenFor yX0_chosenFor, Cond.code yX0_chosenFor cX0_chosenFor 2 (some .int)]
def wsX4_chosenBy : List Cond := .code yX4_chosenBy cX4_chosenBy 3 (some .int) :: ((wsX4_chosenBy_r1 ++ (wsX4_chosenBy_r2 ++ wsX4_chosenBy_r3)) ++ wsX40 ++ wsX20 ++ wsX00 ++ wsX50)
def wsX5_howManyAreZero : List Cond := .code yX5_howManyAreZero cX5_howManyAreZero 3 (some .int) :: ([.fieldLink RX5 15 "ParticleLines$Weights" "many" "I", .fieldLink RX5 9 "ParticleLines$Weights" "weights" "[I"] ++ wsX50)
def wsX4_number_r1 : List Cond := [Cond.fieldLink RX4 12 "ParticleLines$State" "lineage" "LParticleLines$Lineage;", Cond.fieldLink RX4 21 "ParticleLines$State" "weights" "LParticleLines$Weights;", Cond.fieldLink RX4 58 "ParticleLines$State" "noise" "I", Cond.fieldLink RX4 62 "ParticleLines$State" "observations" "I", Cond.fieldLink RX4 65 "ParticleLines$State" "resamplings" "I", Cond.fieldLink RX4 30 "ParticleLines$State" "settings" "LParticleLines$Row;", Cond.constant RX4 78 (-1000001), Cond.methodLink RX4 107 yX1_many, Cond.instanceMethod yX1_many, Cond.selects RX1 yX1_many yX1_many, Cond.initialized RX1, Cond.code yX1_many cX1_many 1 (some .int), Cond.fieldLink RX1 35 "ParticleLines$Lineage" "many" "I", Cond.methodLink RX4 79 yX1_generations, Cond.instanceMethod yX1_generations, Cond.selects RX1 yX1_generations yX1_generations, Cond.code yX1_generations cX1_generations 1 (some .int), Cond.fieldLink RX1 39 "ParticleLines$Lineage" "generations" "I", Cond.methodLink RX4 170 yX5_sum, Cond.instanceMethod yX5_sum, Cond.selects RX5 yX5_sum yX5_sum, Cond.initialized RX5, Cond.code yX5_sum cX5_sum 4 (some .long), Cond.fieldLink RX5 15 "ParticleLines$Weights" "many" "I"]
def wsX4_number_r2 : List Cond := [Cond.fieldLink RX5 9 "ParticleLines$Weights" "weights" "[I", Cond.methodLink RX4 134 yX5_effectiveCount, Cond.instanceMethod yX5_effectiveCount, Cond.selects RX5 yX5_effectiveCount yX5_effectiveCount, Cond.code yX5_effectiveCount cX5_effectiveCount 8 (some .int), Cond.methodLink RX4 205 yX5_howManyAreZero, Cond.instanceMethod yX5_howManyAreZero, Cond.selects RX5 yX5_howManyAreZero yX5_howManyAreZero, Cond.code yX5_howManyAreZero cX5_howManyAreZero 3 (some .int), Cond.methodLink RX4 101 yX1_latest, Cond.instanceMethod yX1_latest, Cond.selects RX1 yX1_latest yX1_latest, Cond.code yX1_latest cX1_latest 1 (some .int), Cond.methodLink RX4 193 yX1_howManyUnlikePlaces, Cond.instanceMethod yX1_howManyUnlikePlaces, Cond.selects RX1 yX1_howManyUnlikePlaces yX1_howManyUnlikePlaces, Cond.code yX1_howManyUnlikePlaces cX1_howManyUnlikePlaces 4 (some .int), Cond.methodLink RX1 73 yX1_isFirstAtItsPlace, Cond.instanceMethod yX1_isFirstAtItsPlace, Cond.selects RX1 yX1_isFirstAtItsPlace yX1_isFirstAtItsPlace, Cond.code yX1_isFirstAtItsPlace cX1_isFirstAtItsPlace 5 (some .boolean), Cond.methodLink RX1 70 yX1_placeIn, Cond.instanceMethod yX1_placeIn, Cond.selects RX1 yX1_placeIn yX1_placeIn]
def wsX4_number_r3 : List Cond := [Cond.code yX1_placeIn cX1_placeIn 3 (some .int), Cond.fieldLink RX1 14 "ParticleLines$Lineage" "places" "LParticleLines$Row;", Cond.methodLink RX1 58 yX2_at, Cond.instanceMethod yX2_at, Cond.selects RX2 yX2_at yX2_at, Cond.initialized RX2, Cond.code yX2_at cX2_at 2 (some .int), Cond.fieldLink RX2 13 "ParticleLines$Row" "numbers" "[I", Cond.methodLink RX4 137 yX2_at]
def wsX4_number : List Cond := .code yX4_number cX4_number 2 (some .int) :: ((wsX4_number_r1 ++ (wsX4_number_r2 ++ wsX4_number_r3)) ++ wsX40 ++ wsX10 ++ wsX50 ++ wsX20)
def wsX6_init_r1 : List Cond := [Cond.methodLink RX6 1 objectInit, Cond.instanceMethod objectInit, Cond.code objectInit ⟨#[0xb1]⟩ 1 none, Cond.classLink RX6 7 RX0, Cond.instantiable RX0 3, Cond.initialized RX0, Cond.classLink RX6 10 RX4, Cond.instantiable RX4 7, Cond.initialized RX4, Cond.fieldLink RX6 15 "ParticleLines" "present" "LParticleLines$State;", Cond.fieldLink RX6 21 "ParticleLines" "draft" "LParticleLines$State;", Cond.fieldLink RX6 24 "ParticleLines" "latestPast" "LParticleLines$State;", Cond.fieldLink RX6 27 "ParticleLines" "secondPast" "LParticleLines$State;", Cond.fieldLink RX6 30 "ParticleLines" "thirdPast" "LParticleLines$State;", Cond.fieldLink RX6 33 "ParticleLines" "oldestPast" "LParticleLines$State;", Cond.fieldLink RX6 36 "ParticleLines" "recorded" "I", Cond.classLink RX6 40 RX3, Cond.instantiable RX3 10, Cond.initialized RX3, Cond.fieldLink RX6 43 "ParticleLines" "script" "LParticleLines$Script;", Cond.methodLink RX6 9 yX0_init, Cond.instanceMethod yX0_init, Cond.code yX0_init cX0_init 1 none, Cond.methodLink RX0 3 objectInit]
def wsX6_init_r2 : List Cond := [Cond.arrayClass .int, Cond.fieldLink RX0 9 "ParticleLines$Choice" "ancestors" "[I", Cond.arrayClass .long, Cond.fieldLink RX0 15 "ParticleLines$Choice" "rests" "[J", Cond.fieldLink RX0 19 "ParticleLines$Choice" "noise" "I", Cond.methodLink RX6 12 yX4_init, Cond.instanceMethod yX4_init, Cond.code yX4_init cX4_init 2 none, Cond.methodLink RX4 3 objectInit, Cond.classLink RX4 9 RX1, Cond.instantiable RX1 8, Cond.initialized RX1, Cond.fieldLink RX4 12 "ParticleLines$State" "lineage" "LParticleLines$Lineage;", Cond.classLink RX4 18 RX5, Cond.instantiable RX5 2, Cond.initialized RX5, Cond.fieldLink RX4 21 "ParticleLines$State" "weights" "LParticleLines$Weights;", Cond.classLink RX4 25 RX2, Cond.instantiable RX2 1, Cond.initialized RX2, Cond.fieldLink RX4 30 "ParticleLines$State" "settings" "LParticleLines$Row;", Cond.fieldLink RX4 34 "ParticleLines$State" "choice" "LParticleLines$Choice;", Cond.methodLink RX4 11 yX1_init, Cond.instanceMethod yX1_init]
def wsX6_init_r3 : List Cond := [Cond.code yX1_init cX1_init 1 none, Cond.methodLink RX1 3 objectInit, Cond.classLink RX1 9 RX2, Cond.fieldLink RX1 14 "ParticleLines$Lineage" "places" "LParticleLines$Row;", Cond.fieldLink RX1 20 "ParticleLines$Lineage" "parents" "LParticleLines$Row;", Cond.fieldLink RX1 23 "ParticleLines$Lineage" "origins" "LParticleLines$Row;", Cond.fieldLink RX1 26 "ParticleLines$Lineage" "drifts" "LParticleLines$Row;", Cond.fieldLink RX1 29 "ParticleLines$Lineage" "spreads" "LParticleLines$Row;", Cond.fieldLink RX1 32 "ParticleLines$Lineage" "schemes" "LParticleLines$Row;", Cond.fieldLink RX1 35 "ParticleLines$Lineage" "many" "I", Cond.fieldLink RX1 39 "ParticleLines$Lineage" "generations" "I", Cond.methodLink RX1 11 yX2_init, Cond.instanceMethod yX2_init, Cond.code yX2_init cX2_init 2 none, Cond.methodLink RX2 1 objectInit, Cond.methodLink RX2 7 Lib.Math.max.name, Cond.static Lib.Math.max.name, Cond.initialized "java/lang/Math", Cond.code Lib.Math.max.name Lib.Math.max.code 2 (some .int), Cond.fieldLink RX2 13 "ParticleLines$Row" "numbers" "[I", Cond.methodLink RX4 20 yX5_init, Cond.instanceMethod yX5_init, Cond.code yX5_init cX5_init 1 none, Cond.methodLink RX5 3 objectInit]
def wsX6_init_r4 : List Cond := [Cond.fieldLink RX5 9 "ParticleLines$Weights" "weights" "[I", Cond.fieldLink RX5 15 "ParticleLines$Weights" "many" "I", Cond.methodLink RX4 27 yX2_init, Cond.methodLink RX4 38 yX2_put, Cond.instanceMethod yX2_put, Cond.selects RX2 yX2_put yX2_put, Cond.code yX2_put cX2_put 3 none, Cond.methodLink RX4 42 yX4_startAnew, Cond.instanceMethod yX4_startAnew, Cond.selects RX4 yX4_startAnew yX4_startAnew, Cond.code yX4_startAnew cX4_startAnew 4 none, Cond.fieldLink RX4 58 "ParticleLines$State" "noise" "I", Cond.fieldLink RX4 62 "ParticleLines$State" "observations" "I", Cond.fieldLink RX4 65 "ParticleLines$State" "resamplings" "I", Cond.methodLink RX4 68 yX1_startWith, Cond.instanceMethod yX1_startWith, Cond.selects RX1 yX1_startWith yX1_startWith, Cond.code yX1_startWith cX1_startWith 5 none, Cond.methodLink RX1 46 yX2_put, Cond.static yX6_nearestPlace, Cond.initialized RX6, Cond.code yX6_nearestPlace cX6_nearestPlace 1 (some .int), Cond.methodLink RX6 137 Lib.Math.min.name, Cond.static Lib.Math.min.name]
def wsX6_init_r5 : List Cond := [Cond.code Lib.Math.min.name Lib.Math.min.code 2 (some .int), Cond.methodLink RX6 142 Lib.Math.max.name, Cond.methodLink RX4 71 yX5_makeEqual, Cond.instanceMethod yX5_makeEqual, Cond.selects RX5 yX5_makeEqual yX5_makeEqual, Cond.code yX5_makeEqual cX5_makeEqual 3 none, Cond.methodLink RX5 19 Lib.Math.min.name, Cond.methodLink RX5 25 Lib.Math.max.name, Cond.methodLink RX6 42 yX3_init, Cond.instanceMethod yX3_init, Cond.code yX3_init cX3_init 1 none, Cond.methodLink RX3 3 objectInit, Cond.fieldLink RX3 9 "ParticleLines$Script" "characters" "[I"]
def wsX6_init : List Cond := .code yX6_init cX6_init 2 none :: ((wsX6_init_r1 ++ (wsX6_init_r2 ++ (wsX6_init_r3 ++ (wsX6_init_r4 ++ wsX6_init_r5)))) ++ wsX00 ++ wsX40 ++ wsX60 ++ wsX30 ++ wsX10 ++ wsX50 ++ wsX20)
def wsX6_keepDraftUnlessError : List Cond := .code yX6_keepDraftUnlessError cX6_keepDraftUnlessError 3 (some .int) :: ([.fieldLink RX6 33 "ParticleLines" "oldestPast" "LParticleLines$State;", .fieldLink RX6 30 "ParticleLines" "thirdPast" "LParticleLines$State;", .fieldLink RX6 27 "ParticleLines" "secondPast" "LParticleLines$State;", .fieldLink RX6 24 "ParticleLines" "latestPast" "LParticleLines$State;", .fieldLink RX6 15 "ParticleLines" "present" "LParticleLines$State;", .fieldLink RX6 21 "ParticleLines" "draft" "LParticleLines$State;", .fieldLink RX6 36 "ParticleLines" "recorded" "I", .methodLink RX6 137 Lib.Math.min.name, .static Lib.Math.min.name, .initialized "java/lang/Math", .code Lib.Math.min.name Lib.Math.min.code 2 (some .int)] ++ wsX60)
def wsX6_begin_r1 : List Cond := [Cond.fieldLink RX6 21 "ParticleLines" "draft" "LParticleLines$State;", Cond.fieldLink RX6 15 "ParticleLines" "present" "LParticleLines$State;", Cond.methodLink RX6 47 yX4_copyState, Cond.instanceMethod yX4_copyState, Cond.selects RX4 yX4_copyState yX4_copyState, Cond.initialized RX4, Cond.code yX4_copyState cX4_copyState 2 none, Cond.fieldLink RX4 12 "ParticleLines$State" "lineage" "LParticleLines$Lineage;", Cond.fieldLink RX4 21 "ParticleLines$State" "weights" "LParticleLines$Weights;", Cond.fieldLink RX4 30 "ParticleLines$State" "settings" "LParticleLines$Row;", Cond.fieldLink RX4 58 "ParticleLines$State" "noise" "I", Cond.fieldLink RX4 62 "ParticleLines$State" "observations" "I", Cond.fieldLink RX4 65 "ParticleLines$State" "resamplings" "I", Cond.methodLink RX4 46 yX1_copyLineage, Cond.instanceMethod yX1_copyLineage, Cond.selects RX1 yX1_copyLineage yX1_copyLineage, Cond.initialized RX1, Cond.code yX1_copyLineage cX1_copyLineage 2 none, Cond.fieldLink RX1 14 "ParticleLines$Lineage" "places" "LParticleLines$Row;", Cond.fieldLink RX1 20 "ParticleLines$Lineage" "parents" "LParticleLines$Row;", Cond.fieldLink RX1 23 "ParticleLines$Lineage" "origins" "LParticleLines$Row;", Cond.fieldLink RX1 26 "ParticleLines$Lineage" "drifts" "LParticleLines$Row;", Cond.fieldLink RX1 29 "ParticleLines$Lineage" "spreads" "LParticleLines$Row;", Cond.fieldLink RX1 32 "ParticleLines$Lineage" "schemes" "LParticleLines$Row;"]
def wsX6_begin_r2 : List Cond := [Cond.fieldLink RX1 35 "ParticleLines$Lineage" "many" "I", Cond.fieldLink RX1 39 "ParticleLines$Lineage" "generations" "I", Cond.methodLink RX1 42 yX2_copyRow, Cond.instanceMethod yX2_copyRow, Cond.selects RX2 yX2_copyRow yX2_copyRow, Cond.initialized RX2, Cond.code yX2_copyRow cX2_copyRow 3 none, Cond.fieldLink RX2 13 "ParticleLines$Row" "numbers" "[I", Cond.methodLink RX4 50 yX5_copyWeights, Cond.instanceMethod yX5_copyWeights, Cond.selects RX5 yX5_copyWeights yX5_copyWeights, Cond.initialized RX5, Cond.code yX5_copyWeights cX5_copyWeights 3 none, Cond.fieldLink RX5 15 "ParticleLines$Weights" "many" "I", Cond.fieldLink RX5 9 "ParticleLines$Weights" "weights" "[I", Cond.methodLink RX4 54 yX2_copyRow, Cond.methodLink RX6 51 yX4_beginAnew, Cond.instanceMethod yX4_beginAnew, Cond.selects RX4 yX4_beginAnew yX4_beginAnew, Cond.code yX4_beginAnew cX4_beginAnew 5 (some .int), Cond.constant RX4 78 (-1000001), Cond.static yX6_isWithin, Cond.initialized RX6, Cond.code yX6_isWithin cX6_isWithin 3 (some .boolean)]
def wsX6_begin_r3 : List Cond := [Cond.methodLink RX4 79 yX1_generations, Cond.instanceMethod yX1_generations, Cond.selects RX1 yX1_generations yX1_generations, Cond.code yX1_generations cX1_generations 1 (some .int), Cond.methodLink RX4 42 yX4_startAnew, Cond.instanceMethod yX4_startAnew, Cond.selects RX4 yX4_startAnew yX4_startAnew, Cond.code yX4_startAnew cX4_startAnew 4 none, Cond.methodLink RX4 68 yX1_startWith, Cond.instanceMethod yX1_startWith, Cond.selects RX1 yX1_startWith yX1_startWith, Cond.code yX1_startWith cX1_startWith 5 none, Cond.methodLink RX1 46 yX2_put, Cond.instanceMethod yX2_put, Cond.selects RX2 yX2_put yX2_put, Cond.code yX2_put cX2_put 3 none, Cond.static yX6_nearestPlace, Cond.code yX6_nearestPlace cX6_nearestPlace 1 (some .int), Cond.methodLink RX6 137 Lib.Math.min.name, Cond.static Lib.Math.min.name, Cond.initialized "java/lang/Math", Cond.code Lib.Math.min.name Lib.Math.min.code 2 (some .int), Cond.methodLink RX6 142 Lib.Math.max.name, Cond.static Lib.Math.max.name]
def wsX6_begin_r4 : List Cond := [Cond.code Lib.Math.max.name Lib.Math.max.code 2 (some .int), Cond.methodLink RX4 71 yX5_makeEqual, Cond.instanceMethod yX5_makeEqual, Cond.selects RX5 yX5_makeEqual yX5_makeEqual, Cond.code yX5_makeEqual cX5_makeEqual 3 none, Cond.methodLink RX5 19 Lib.Math.min.name, Cond.methodLink RX5 25 Lib.Math.max.name, Cond.methodLink RX6 55 yX6_keepDraftUnlessError, Cond.instanceMethod yX6_keepDraftUnlessError, Cond.selects RX6 yX6_keepDraftUnlessError yX6_keepDraftUnlessError, Cond.code yX6_keepDraftUnlessError cX6_keepDraftUnlessError 3 (some .int), Cond.fieldLink RX6 33 "ParticleLines" "oldestPast" "LParticleLines$State;", Cond.fieldLink RX6 30 "ParticleLines" "thirdPast" "LParticleLines$State;", Cond.fieldLink RX6 27 "ParticleLines" "secondPast" "LParticleLines$State;", Cond.fieldLink RX6 24 "ParticleLines" "latestPast" "LParticleLines$State;", Cond.fieldLink RX6 36 "ParticleLines" "recorded" "I"]
def wsX6_begin : List Cond := .code yX6_begin cX6_begin 4 (some .int) :: ((wsX6_begin_r1 ++ (wsX6_begin_r2 ++ (wsX6_begin_r3 ++ wsX6_begin_r4))) ++ wsX60 ++ wsX40 ++ wsX10 ++ wsX20 ++ wsX50)
def wsX6_weigh_r1 : List Cond := [Cond.fieldLink RX6 21 "ParticleLines" "draft" "LParticleLines$State;", Cond.fieldLink RX6 15 "ParticleLines" "present" "LParticleLines$State;", Cond.methodLink RX6 47 yX4_copyState, Cond.instanceMethod yX4_copyState, Cond.selects RX4 yX4_copyState yX4_copyState, Cond.initialized RX4, Cond.code yX4_copyState cX4_copyState 2 none, Cond.fieldLink RX4 12 "ParticleLines$State" "lineage" "LParticleLines$Lineage;", Cond.fieldLink RX4 21 "ParticleLines$State" "weights" "LParticleLines$Weights;", Cond.fieldLink RX4 30 "ParticleLines$State" "settings" "LParticleLines$Row;", Cond.fieldLink RX4 58 "ParticleLines$State" "noise" "I", Cond.fieldLink RX4 62 "ParticleLines$State" "observations" "I", Cond.fieldLink RX4 65 "ParticleLines$State" "resamplings" "I", Cond.methodLink RX4 46 yX1_copyLineage, Cond.instanceMethod yX1_copyLineage, Cond.selects RX1 yX1_copyLineage yX1_copyLineage, Cond.initialized RX1, Cond.code yX1_copyLineage cX1_copyLineage 2 none, Cond.fieldLink RX1 14 "ParticleLines$Lineage" "places" "LParticleLines$Row;", Cond.fieldLink RX1 20 "ParticleLines$Lineage" "parents" "LParticleLines$Row;", Cond.fieldLink RX1 23 "ParticleLines$Lineage" "origins" "LParticleLines$Row;", Cond.fieldLink RX1 26 "ParticleLines$Lineage" "drifts" "LParticleLines$Row;", Cond.fieldLink RX1 29 "ParticleLines$Lineage" "spreads" "LParticleLines$Row;", Cond.fieldLink RX1 32 "ParticleLines$Lineage" "schemes" "LParticleLines$Row;"]
def wsX6_weigh_r2 : List Cond := [Cond.fieldLink RX1 35 "ParticleLines$Lineage" "many" "I", Cond.fieldLink RX1 39 "ParticleLines$Lineage" "generations" "I", Cond.methodLink RX1 42 yX2_copyRow, Cond.instanceMethod yX2_copyRow, Cond.selects RX2 yX2_copyRow yX2_copyRow, Cond.initialized RX2, Cond.code yX2_copyRow cX2_copyRow 3 none, Cond.fieldLink RX2 13 "ParticleLines$Row" "numbers" "[I", Cond.methodLink RX4 50 yX5_copyWeights, Cond.instanceMethod yX5_copyWeights, Cond.selects RX5 yX5_copyWeights yX5_copyWeights, Cond.initialized RX5, Cond.code yX5_copyWeights cX5_copyWeights 3 none, Cond.fieldLink RX5 15 "ParticleLines$Weights" "many" "I", Cond.fieldLink RX5 9 "ParticleLines$Weights" "weights" "[I", Cond.methodLink RX4 54 yX2_copyRow, Cond.methodLink RX6 59 yX4_changeWeight, Cond.instanceMethod yX4_changeWeight, Cond.selects RX4 yX4_changeWeight yX4_changeWeight, Cond.code yX4_changeWeight cX4_changeWeight 3 (some .int), Cond.constant RX4 87 (1000000), Cond.constant RX4 78 (-1000001), Cond.constant RX4 95 (-1000002), Cond.methodLink RX4 83 yX4_hasParticle]
def wsX6_weigh_r3 : List Cond := [Cond.instanceMethod yX4_hasParticle, Cond.selects RX4 yX4_hasParticle yX4_hasParticle, Cond.code yX4_hasParticle cX4_hasParticle 2 (some .boolean), Cond.methodLink RX4 107 yX1_many, Cond.instanceMethod yX1_many, Cond.selects RX1 yX1_many yX1_many, Cond.code yX1_many cX1_many 1 (some .int), Cond.static yX6_isWithin, Cond.initialized RX6, Cond.code yX6_isWithin cX6_isWithin 3 (some .boolean), Cond.methodLink RX4 88 yX5_putWeight, Cond.instanceMethod yX5_putWeight, Cond.selects RX5 yX5_putWeight yX5_putWeight, Cond.code yX5_putWeight cX5_putWeight 3 none, Cond.methodLink RX4 91 yX5_reduce, Cond.instanceMethod yX5_reduce, Cond.selects RX5 yX5_reduce yX5_reduce, Cond.code yX5_reduce cX5_reduce 4 (some .boolean), Cond.static yX6_commonDivisor, Cond.code yX6_commonDivisor cX6_commonDivisor 11 (some .long), Cond.methodLink RX4 96 yX5_weightOf, Cond.instanceMethod yX5_weightOf, Cond.selects RX5 yX5_weightOf yX5_weightOf, Cond.code yX5_weightOf cX5_weightOf 2 (some .int)]
def wsX6_weigh_r4 : List Cond := [Cond.methodLink RX6 55 yX6_keepDraftUnlessError, Cond.instanceMethod yX6_keepDraftUnlessError, Cond.selects RX6 yX6_keepDraftUnlessError yX6_keepDraftUnlessError, Cond.code yX6_keepDraftUnlessError cX6_keepDraftUnlessError 3 (some .int), Cond.fieldLink RX6 33 "ParticleLines" "oldestPast" "LParticleLines$State;", Cond.fieldLink RX6 30 "ParticleLines" "thirdPast" "LParticleLines$State;", Cond.fieldLink RX6 27 "ParticleLines" "secondPast" "LParticleLines$State;", Cond.fieldLink RX6 24 "ParticleLines" "latestPast" "LParticleLines$State;", Cond.fieldLink RX6 36 "ParticleLines" "recorded" "I", Cond.methodLink RX6 137 Lib.Math.min.name, Cond.static Lib.Math.min.name, Cond.initialized "java/lang/Math", Cond.code Lib.Math.min.name Lib.Math.min.code 2 (some .int)]
def wsX6_weigh : List Cond := .code yX6_weigh cX6_weigh 3 (some .int) :: ((wsX6_weigh_r1 ++ (wsX6_weigh_r2 ++ (wsX6_weigh_r3 ++ wsX6_weigh_r4))) ++ wsX60 ++ wsX40 ++ wsX10 ++ wsX20 ++ wsX50)
def wsX6_move_r1 : List Cond := [Cond.fieldLink RX6 21 "ParticleLines" "draft" "LParticleLines$State;", Cond.fieldLink RX6 15 "ParticleLines" "present" "LParticleLines$State;", Cond.methodLink RX6 47 yX4_copyState, Cond.instanceMethod yX4_copyState, Cond.selects RX4 yX4_copyState yX4_copyState, Cond.initialized RX4, Cond.code yX4_copyState cX4_copyState 2 none, Cond.fieldLink RX4 12 "ParticleLines$State" "lineage" "LParticleLines$Lineage;", Cond.fieldLink RX4 21 "ParticleLines$State" "weights" "LParticleLines$Weights;", Cond.fieldLink RX4 30 "ParticleLines$State" "settings" "LParticleLines$Row;", Cond.fieldLink RX4 58 "ParticleLines$State" "noise" "I", Cond.fieldLink RX4 62 "ParticleLines$State" "observations" "I", Cond.fieldLink RX4 65 "ParticleLines$State" "resamplings" "I", Cond.methodLink RX4 46 yX1_copyLineage, Cond.instanceMethod yX1_copyLineage, Cond.selects RX1 yX1_copyLineage yX1_copyLineage, Cond.initialized RX1, Cond.code yX1_copyLineage cX1_copyLineage 2 none, Cond.fieldLink RX1 14 "ParticleLines$Lineage" "places" "LParticleLines$Row;", Cond.fieldLink RX1 20 "ParticleLines$Lineage" "parents" "LParticleLines$Row;", Cond.fieldLink RX1 23 "ParticleLines$Lineage" "origins" "LParticleLines$Row;", Cond.fieldLink RX1 26 "ParticleLines$Lineage" "drifts" "LParticleLines$Row;", Cond.fieldLink RX1 29 "ParticleLines$Lineage" "spreads" "LParticleLines$Row;", Cond.fieldLink RX1 32 "ParticleLines$Lineage" "schemes" "LParticleLines$Row;"]
def wsX6_move_r2 : List Cond := [Cond.fieldLink RX1 35 "ParticleLines$Lineage" "many" "I", Cond.fieldLink RX1 39 "ParticleLines$Lineage" "generations" "I", Cond.methodLink RX1 42 yX2_copyRow, Cond.instanceMethod yX2_copyRow, Cond.selects RX2 yX2_copyRow yX2_copyRow, Cond.initialized RX2, Cond.code yX2_copyRow cX2_copyRow 3 none, Cond.fieldLink RX2 13 "ParticleLines$Row" "numbers" "[I", Cond.methodLink RX4 50 yX5_copyWeights, Cond.instanceMethod yX5_copyWeights, Cond.selects RX5 yX5_copyWeights yX5_copyWeights, Cond.initialized RX5, Cond.code yX5_copyWeights cX5_copyWeights 3 none, Cond.fieldLink RX5 15 "ParticleLines$Weights" "many" "I", Cond.fieldLink RX5 9 "ParticleLines$Weights" "weights" "[I", Cond.methodLink RX4 54 yX2_copyRow, Cond.methodLink RX6 63 yX4_shift, Cond.instanceMethod yX4_shift, Cond.selects RX4 yX4_shift yX4_shift, Cond.code yX4_shift cX4_shift 6 (some .int), Cond.constant RX4 78 (-1000001), Cond.constant RX4 100 (-1000003), Cond.static yX6_isWithin, Cond.initialized RX6]
def wsX6_move_r3 : List Cond := [Cond.code yX6_isWithin cX6_isWithin 3 (some .boolean), Cond.methodLink RX4 79 yX1_generations, Cond.instanceMethod yX1_generations, Cond.selects RX1 yX1_generations yX1_generations, Cond.code yX1_generations cX1_generations 1 (some .int), Cond.methodLink RX4 101 yX1_latest, Cond.instanceMethod yX1_latest, Cond.selects RX1 yX1_latest yX1_latest, Cond.code yX1_latest cX1_latest 1 (some .int), Cond.methodLink RX4 104 yX1_addMoved, Cond.instanceMethod yX1_addMoved, Cond.selects RX1 yX1_addMoved yX1_addMoved, Cond.code yX1_addMoved cX1_addMoved 3 none, Cond.methodLink RX1 46 yX2_put, Cond.instanceMethod yX2_put, Cond.selects RX2 yX2_put yX2_put, Cond.code yX2_put cX2_put 3 none, Cond.methodLink RX4 107 yX1_many, Cond.instanceMethod yX1_many, Cond.selects RX1 yX1_many yX1_many, Cond.code yX1_many cX1_many 1 (some .int), Cond.static yX6_noiseBehind, Cond.code yX6_noiseBehind cX6_noiseBehind 1 (some .int), Cond.constant RX6 145 (65537)]
def wsX6_move_r4 : List Cond := [Cond.methodLink RX4 113 yX1_placeIn, Cond.instanceMethod yX1_placeIn, Cond.selects RX1 yX1_placeIn yX1_placeIn, Cond.code yX1_placeIn cX1_placeIn 3 (some .int), Cond.methodLink RX1 58 yX2_at, Cond.instanceMethod yX2_at, Cond.selects RX2 yX2_at yX2_at, Cond.code yX2_at cX2_at 2 (some .int), Cond.static yX6_nearestPlace, Cond.code yX6_nearestPlace cX6_nearestPlace 1 (some .int), Cond.methodLink RX6 137 Lib.Math.min.name, Cond.static Lib.Math.min.name, Cond.initialized "java/lang/Math", Cond.code Lib.Math.min.name Lib.Math.min.code 2 (some .int), Cond.methodLink RX6 142 Lib.Math.max.name, Cond.static Lib.Math.max.name, Cond.code Lib.Math.max.name Lib.Math.max.code 2 (some .int), Cond.methodLink RX4 120 yX1_putParticle, Cond.instanceMethod yX1_putParticle, Cond.selects RX1 yX1_putParticle yX1_putParticle, Cond.code yX1_putParticle cX1_putParticle 5 none, Cond.methodLink RX1 54 yX1_latest, Cond.methodLink RX6 55 yX6_keepDraftUnlessError, Cond.instanceMethod yX6_keepDraftUnlessError]
def wsX6_move_r5 : List Cond := [Cond.selects RX6 yX6_keepDraftUnlessError yX6_keepDraftUnlessError, Cond.code yX6_keepDraftUnlessError cX6_keepDraftUnlessError 3 (some .int), Cond.fieldLink RX6 33 "ParticleLines" "oldestPast" "LParticleLines$State;", Cond.fieldLink RX6 30 "ParticleLines" "thirdPast" "LParticleLines$State;", Cond.fieldLink RX6 27 "ParticleLines" "secondPast" "LParticleLines$State;", Cond.fieldLink RX6 24 "ParticleLines" "latestPast" "LParticleLines$State;", Cond.fieldLink RX6 36 "ParticleLines" "recorded" "I"]
def wsX6_move : List Cond := .code yX6_move cX6_move 3 (some .int) :: ((wsX6_move_r1 ++ (wsX6_move_r2 ++ (wsX6_move_r3 ++ (wsX6_move_r4 ++ wsX6_move_r5)))) ++ wsX60 ++ wsX40 ++ wsX10 ++ wsX20 ++ wsX50)
def wsX6_observe_r1 : List Cond := [Cond.fieldLink RX6 21 "ParticleLines" "draft" "LParticleLines$State;", Cond.fieldLink RX6 15 "ParticleLines" "present" "LParticleLines$State;", Cond.methodLink RX6 47 yX4_copyState, Cond.instanceMethod yX4_copyState, Cond.selects RX4 yX4_copyState yX4_copyState, Cond.initialized RX4, Cond.code yX4_copyState cX4_copyState 2 none, Cond.fieldLink RX4 12 "ParticleLines$State" "lineage" "LParticleLines$Lineage;", Cond.fieldLink RX4 21 "ParticleLines$State" "weights" "LParticleLines$Weights;", Cond.fieldLink RX4 30 "ParticleLines$State" "settings" "LParticleLines$Row;", Cond.fieldLink RX4 58 "ParticleLines$State" "noise" "I", Cond.fieldLink RX4 62 "ParticleLines$State" "observations" "I", Cond.fieldLink RX4 65 "ParticleLines$State" "resamplings" "I", Cond.methodLink RX4 46 yX1_copyLineage, Cond.instanceMethod yX1_copyLineage, Cond.selects RX1 yX1_copyLineage yX1_copyLineage, Cond.initialized RX1, Cond.code yX1_copyLineage cX1_copyLineage 2 none, Cond.fieldLink RX1 14 "ParticleLines$Lineage" "places" "LParticleLines$Row;", Cond.fieldLink RX1 20 "ParticleLines$Lineage" "parents" "LParticleLines$Row;", Cond.fieldLink RX1 23 "ParticleLines$Lineage" "origins" "LParticleLines$Row;", Cond.fieldLink RX1 26 "ParticleLines$Lineage" "drifts" "LParticleLines$Row;", Cond.fieldLink RX1 29 "ParticleLines$Lineage" "spreads" "LParticleLines$Row;", Cond.fieldLink RX1 32 "ParticleLines$Lineage" "schemes" "LParticleLines$Row;"]
def wsX6_observe_r2 : List Cond := [Cond.fieldLink RX1 35 "ParticleLines$Lineage" "many" "I", Cond.fieldLink RX1 39 "ParticleLines$Lineage" "generations" "I", Cond.methodLink RX1 42 yX2_copyRow, Cond.instanceMethod yX2_copyRow, Cond.selects RX2 yX2_copyRow yX2_copyRow, Cond.initialized RX2, Cond.code yX2_copyRow cX2_copyRow 3 none, Cond.fieldLink RX2 13 "ParticleLines$Row" "numbers" "[I", Cond.methodLink RX4 50 yX5_copyWeights, Cond.instanceMethod yX5_copyWeights, Cond.selects RX5 yX5_copyWeights yX5_copyWeights, Cond.initialized RX5, Cond.code yX5_copyWeights cX5_copyWeights 3 none, Cond.fieldLink RX5 15 "ParticleLines$Weights" "many" "I", Cond.fieldLink RX5 9 "ParticleLines$Weights" "weights" "[I", Cond.methodLink RX4 54 yX2_copyRow, Cond.methodLink RX6 66 yX4_look, Cond.instanceMethod yX4_look, Cond.selects RX4 yX4_look yX4_look, Cond.code yX4_look cX4_look 5 (some .int), Cond.constant RX4 78 (-1000001), Cond.methodLink RX4 123 Lib.Math.abs.name, Cond.static Lib.Math.abs.name, Cond.initialized "java/lang/Math"]
def wsX6_observe_r3 : List Cond := [Cond.code Lib.Math.abs.name Lib.Math.abs.code 1 (some .int), Cond.methodLink RX4 128 Lib.Math.max.name, Cond.static Lib.Math.max.name, Cond.code Lib.Math.max.name Lib.Math.max.code 2 (some .int), Cond.constant RX4 95 (-1000002), Cond.constant RX4 87 (1000000), Cond.constant RX4 100 (-1000003), Cond.static yX6_isWithin, Cond.initialized RX6, Cond.code yX6_isWithin cX6_isWithin 3 (some .boolean), Cond.methodLink RX4 107 yX1_many, Cond.instanceMethod yX1_many, Cond.selects RX1 yX1_many yX1_many, Cond.code yX1_many cX1_many 1 (some .int), Cond.methodLink RX4 101 yX1_latest, Cond.instanceMethod yX1_latest, Cond.selects RX1 yX1_latest yX1_latest, Cond.code yX1_latest cX1_latest 1 (some .int), Cond.methodLink RX4 113 yX1_placeIn, Cond.instanceMethod yX1_placeIn, Cond.selects RX1 yX1_placeIn yX1_placeIn, Cond.code yX1_placeIn cX1_placeIn 3 (some .int), Cond.methodLink RX1 58 yX2_at, Cond.instanceMethod yX2_at]
def wsX6_observe_r4 : List Cond := [Cond.selects RX2 yX2_at yX2_at, Cond.code yX2_at cX2_at 2 (some .int), Cond.methodLink RX4 96 yX5_weightOf, Cond.instanceMethod yX5_weightOf, Cond.selects RX5 yX5_weightOf yX5_weightOf, Cond.code yX5_weightOf cX5_weightOf 2 (some .int), Cond.methodLink RX4 88 yX5_putWeight, Cond.instanceMethod yX5_putWeight, Cond.selects RX5 yX5_putWeight yX5_putWeight, Cond.code yX5_putWeight cX5_putWeight 3 none, Cond.methodLink RX4 91 yX5_reduce, Cond.instanceMethod yX5_reduce, Cond.selects RX5 yX5_reduce yX5_reduce, Cond.code yX5_reduce cX5_reduce 4 (some .boolean), Cond.static yX6_commonDivisor, Cond.code yX6_commonDivisor cX6_commonDivisor 11 (some .long), Cond.methodLink RX4 131 yX5_greatest, Cond.instanceMethod yX5_greatest, Cond.selects RX5 yX5_greatest yX5_greatest, Cond.code yX5_greatest cX5_greatest 3 (some .int), Cond.methodLink RX5 25 Lib.Math.max.name, Cond.methodLink RX4 134 yX5_effectiveCount, Cond.instanceMethod yX5_effectiveCount, Cond.selects RX5 yX5_effectiveCount yX5_effectiveCount]
def wsX6_observe_r5 : List Cond := [Cond.code yX5_effectiveCount cX5_effectiveCount 8 (some .int), Cond.methodLink RX4 137 yX2_at, Cond.methodLink RX4 140 yX4_renew, Cond.instanceMethod yX4_renew, Cond.selects RX4 yX4_renew yX4_renew, Cond.code yX4_renew cX4_renew 5 (some .int), Cond.fieldLink RX4 34 "ParticleLines$State" "choice" "LParticleLines$Choice;", Cond.methodLink RX4 79 yX1_generations, Cond.instanceMethod yX1_generations, Cond.selects RX1 yX1_generations yX1_generations, Cond.code yX1_generations cX1_generations 1 (some .int), Cond.methodLink RX4 143 yX0_choose, Cond.instanceMethod yX0_choose, Cond.selects RX0 yX0_choose yX0_choose, Cond.initialized RX0, Cond.code yX0_choose cX0_choose 5 none, Cond.fieldLink RX0 19 "ParticleLines$Choice" "noise" "I", Cond.methodLink RX0 23 yX0_chooseByOffset, Cond.instanceMethod yX0_chooseByOffset, Cond.selects RX0 yX0_chooseByOffset yX0_chooseByOffset, Cond.code yX0_chooseByOffset cX0_chooseByOffset 8 none, Cond.constantLong RX0 40 (100), Cond.fieldLink RX0 9 "ParticleLines$Choice" "ancestors" "[I", Cond.methodLink RX0 34 yX5_sum]
def wsX6_observe_r6 : List Cond := [Cond.instanceMethod yX5_sum, Cond.selects RX5 yX5_sum yX5_sum, Cond.code yX5_sum cX5_sum 4 (some .long), Cond.methodLink RX0 45 yX5_firstAbove, Cond.instanceMethod yX5_firstAbove, Cond.selects RX5 yX5_firstAbove yX5_firstAbove, Cond.code yX5_firstAbove cX5_firstAbove 6 (some .int), Cond.methodLink RX0 27 yX0_chooseByNoises, Cond.instanceMethod yX0_chooseByNoises, Cond.selects RX0 yX0_chooseByNoises yX0_chooseByNoises, Cond.code yX0_chooseByNoises cX0_chooseByNoises 5 none, Cond.static yX6_noiseBehind, Cond.code yX6_noiseBehind cX6_noiseBehind 1 (some .int), Cond.constant RX6 145 (65537), Cond.methodLink RX0 31 yX0_chooseByShares, Cond.instanceMethod yX0_chooseByShares, Cond.selects RX0 yX0_chooseByShares yX0_chooseByShares, Cond.code yX0_chooseByShares cX0_chooseByShares 13 none, Cond.fieldLink RX0 15 "ParticleLines$Choice" "rests" "[J", Cond.methodLink RX0 53 yX5_weightOf, Cond.methodLink RX0 56 yX0_restsAheadOf, Cond.instanceMethod yX0_restsAheadOf, Cond.selects RX0 yX0_restsAheadOf yX0_restsAheadOf, Cond.code yX0_restsAheadOf cX0_restsAheadOf 8 (some .int)]
def wsX6_observe_r7 : List Cond := [Cond.methodLink RX4 149 yX1_addResampled, Cond.instanceMethod yX1_addResampled, Cond.selects RX1 yX1_addResampled yX1_addResampled, Cond.code yX1_addResampled cX1_addResampled 2 none, Cond.methodLink RX1 46 yX2_put, Cond.instanceMethod yX2_put, Cond.selects RX2 yX2_put yX2_put, Cond.code yX2_put cX2_put 3 none, Cond.methodLink RX4 152 yX0_chosenFor, Cond.instanceMethod yX0_chosenFor, Cond.selects RX0 yX0_chosenFor yX0_chosenFor, Cond.code yX0_chosenFor cX0_chosenFor 2 (some .int), Cond.methodLink RX4 120 yX1_putParticle, Cond.instanceMethod yX1_putParticle, Cond.selects RX1 yX1_putParticle yX1_putParticle, Cond.code yX1_putParticle cX1_putParticle 5 none, Cond.methodLink RX1 54 yX1_latest, Cond.methodLink RX4 155 yX0_noise, Cond.instanceMethod yX0_noise, Cond.selects RX0 yX0_noise yX0_noise, Cond.code yX0_noise cX0_noise 1 (some .int), Cond.methodLink RX4 71 yX5_makeEqual, Cond.instanceMethod yX5_makeEqual, Cond.selects RX5 yX5_makeEqual yX5_makeEqual]
def wsX6_observe_r8 : List Cond := [Cond.code yX5_makeEqual cX5_makeEqual 3 none, Cond.methodLink RX5 19 Lib.Math.min.name, Cond.static Lib.Math.min.name, Cond.code Lib.Math.min.name Lib.Math.min.code 2 (some .int), Cond.methodLink RX4 157 yX1_howManyAreAncestors, Cond.instanceMethod yX1_howManyAreAncestors, Cond.selects RX1 yX1_howManyAreAncestors yX1_howManyAreAncestors, Cond.code yX1_howManyAreAncestors cX1_howManyAreAncestors 4 (some .int), Cond.methodLink RX1 61 yX1_ancestorIn, Cond.instanceMethod yX1_ancestorIn, Cond.selects RX1 yX1_ancestorIn yX1_ancestorIn, Cond.code yX1_ancestorIn cX1_ancestorIn 5 (some .int), Cond.methodLink RX1 65 yJ6_bitCount_0f7a4, Cond.static yJ6_bitCount_0f7a4, Cond.initialized RJ6, Cond.code yJ6_bitCount_0f7a4 cJ6_bitCount_0f7a4 1 (some .int), Cond.constant RJ6 265 (1431655765), Cond.constant RJ6 266 (858993459), Cond.constant RJ6 267 (252645135), Cond.methodLink RX6 55 yX6_keepDraftUnlessError, Cond.instanceMethod yX6_keepDraftUnlessError, Cond.selects RX6 yX6_keepDraftUnlessError yX6_keepDraftUnlessError, Cond.code yX6_keepDraftUnlessError cX6_keepDraftUnlessError 3 (some .int), Cond.fieldLink RX6 33 "ParticleLines" "oldestPast" "LParticleLines$State;"]
def wsX6_observe_r9 : List Cond := [Cond.fieldLink RX6 30 "ParticleLines" "thirdPast" "LParticleLines$State;", Cond.fieldLink RX6 27 "ParticleLines" "secondPast" "LParticleLines$State;", Cond.fieldLink RX6 24 "ParticleLines" "latestPast" "LParticleLines$State;", Cond.fieldLink RX6 36 "ParticleLines" "recorded" "I", Cond.methodLink RX6 137 Lib.Math.min.name]
def wsX6_observe : List Cond := .code yX6_observe cX6_observe 3 (some .int) :: ((wsX6_observe_r1 ++ (wsX6_observe_r2 ++ (wsX6_observe_r3 ++ (wsX6_observe_r4 ++ (wsX6_observe_r5 ++ (wsX6_observe_r6 ++ (wsX6_observe_r7 ++ (wsX6_observe_r8 ++ wsX6_observe_r9)))))))) ++ wsX60 ++ wsX40 ++ wsX10 ++ wsX20 ++ wsX50 ++ wsX00)
def wsX6_resample_r1 : List Cond := [Cond.fieldLink RX6 21 "ParticleLines" "draft" "LParticleLines$State;", Cond.fieldLink RX6 15 "ParticleLines" "present" "LParticleLines$State;", Cond.methodLink RX6 47 yX4_copyState, Cond.instanceMethod yX4_copyState, Cond.selects RX4 yX4_copyState yX4_copyState, Cond.initialized RX4, Cond.code yX4_copyState cX4_copyState 2 none, Cond.fieldLink RX4 12 "ParticleLines$State" "lineage" "LParticleLines$Lineage;", Cond.fieldLink RX4 21 "ParticleLines$State" "weights" "LParticleLines$Weights;", Cond.fieldLink RX4 30 "ParticleLines$State" "settings" "LParticleLines$Row;", Cond.fieldLink RX4 58 "ParticleLines$State" "noise" "I", Cond.fieldLink RX4 62 "ParticleLines$State" "observations" "I", Cond.fieldLink RX4 65 "ParticleLines$State" "resamplings" "I", Cond.methodLink RX4 46 yX1_copyLineage, Cond.instanceMethod yX1_copyLineage, Cond.selects RX1 yX1_copyLineage yX1_copyLineage, Cond.initialized RX1, Cond.code yX1_copyLineage cX1_copyLineage 2 none, Cond.fieldLink RX1 14 "ParticleLines$Lineage" "places" "LParticleLines$Row;", Cond.fieldLink RX1 20 "ParticleLines$Lineage" "parents" "LParticleLines$Row;", Cond.fieldLink RX1 23 "ParticleLines$Lineage" "origins" "LParticleLines$Row;", Cond.fieldLink RX1 26 "ParticleLines$Lineage" "drifts" "LParticleLines$Row;", Cond.fieldLink RX1 29 "ParticleLines$Lineage" "spreads" "LParticleLines$Row;", Cond.fieldLink RX1 32 "ParticleLines$Lineage" "schemes" "LParticleLines$Row;"]
def wsX6_resample_r2 : List Cond := [Cond.fieldLink RX1 35 "ParticleLines$Lineage" "many" "I", Cond.fieldLink RX1 39 "ParticleLines$Lineage" "generations" "I", Cond.methodLink RX1 42 yX2_copyRow, Cond.instanceMethod yX2_copyRow, Cond.selects RX2 yX2_copyRow yX2_copyRow, Cond.initialized RX2, Cond.code yX2_copyRow cX2_copyRow 3 none, Cond.fieldLink RX2 13 "ParticleLines$Row" "numbers" "[I", Cond.methodLink RX4 50 yX5_copyWeights, Cond.instanceMethod yX5_copyWeights, Cond.selects RX5 yX5_copyWeights yX5_copyWeights, Cond.initialized RX5, Cond.code yX5_copyWeights cX5_copyWeights 3 none, Cond.fieldLink RX5 15 "ParticleLines$Weights" "many" "I", Cond.fieldLink RX5 9 "ParticleLines$Weights" "weights" "[I", Cond.methodLink RX4 54 yX2_copyRow, Cond.methodLink RX6 69 yX4_renew, Cond.instanceMethod yX4_renew, Cond.selects RX4 yX4_renew yX4_renew, Cond.code yX4_renew cX4_renew 5 (some .int), Cond.constant RX4 100 (-1000003), Cond.fieldLink RX4 34 "ParticleLines$State" "choice" "LParticleLines$Choice;", Cond.methodLink RX4 79 yX1_generations, Cond.instanceMethod yX1_generations]
def wsX6_resample_r3 : List Cond := [Cond.selects RX1 yX1_generations yX1_generations, Cond.code yX1_generations cX1_generations 1 (some .int), Cond.methodLink RX4 137 yX2_at, Cond.instanceMethod yX2_at, Cond.selects RX2 yX2_at yX2_at, Cond.code yX2_at cX2_at 2 (some .int), Cond.methodLink RX4 143 yX0_choose, Cond.instanceMethod yX0_choose, Cond.selects RX0 yX0_choose yX0_choose, Cond.initialized RX0, Cond.code yX0_choose cX0_choose 5 none, Cond.fieldLink RX0 19 "ParticleLines$Choice" "noise" "I", Cond.methodLink RX0 23 yX0_chooseByOffset, Cond.instanceMethod yX0_chooseByOffset, Cond.selects RX0 yX0_chooseByOffset yX0_chooseByOffset, Cond.code yX0_chooseByOffset cX0_chooseByOffset 8 none, Cond.constantLong RX0 40 (100), Cond.fieldLink RX0 9 "ParticleLines$Choice" "ancestors" "[I", Cond.methodLink RX0 34 yX5_sum, Cond.instanceMethod yX5_sum, Cond.selects RX5 yX5_sum yX5_sum, Cond.code yX5_sum cX5_sum 4 (some .long), Cond.methodLink RX0 45 yX5_firstAbove, Cond.instanceMethod yX5_firstAbove]
def wsX6_resample_r4 : List Cond := [Cond.selects RX5 yX5_firstAbove yX5_firstAbove, Cond.code yX5_firstAbove cX5_firstAbove 6 (some .int), Cond.methodLink RX0 27 yX0_chooseByNoises, Cond.instanceMethod yX0_chooseByNoises, Cond.selects RX0 yX0_chooseByNoises yX0_chooseByNoises, Cond.code yX0_chooseByNoises cX0_chooseByNoises 5 none, Cond.static yX6_noiseBehind, Cond.initialized RX6, Cond.code yX6_noiseBehind cX6_noiseBehind 1 (some .int), Cond.constant RX6 145 (65537), Cond.methodLink RX0 31 yX0_chooseByShares, Cond.instanceMethod yX0_chooseByShares, Cond.selects RX0 yX0_chooseByShares yX0_chooseByShares, Cond.code yX0_chooseByShares cX0_chooseByShares 13 none, Cond.fieldLink RX0 15 "ParticleLines$Choice" "rests" "[J", Cond.methodLink RX0 53 yX5_weightOf, Cond.instanceMethod yX5_weightOf, Cond.selects RX5 yX5_weightOf yX5_weightOf, Cond.code yX5_weightOf cX5_weightOf 2 (some .int), Cond.methodLink RX0 56 yX0_restsAheadOf, Cond.instanceMethod yX0_restsAheadOf, Cond.selects RX0 yX0_restsAheadOf yX0_restsAheadOf, Cond.code yX0_restsAheadOf cX0_restsAheadOf 8 (some .int), Cond.methodLink RX4 101 yX1_latest]
def wsX6_resample_r5 : List Cond := [Cond.instanceMethod yX1_latest, Cond.selects RX1 yX1_latest yX1_latest, Cond.code yX1_latest cX1_latest 1 (some .int), Cond.methodLink RX4 149 yX1_addResampled, Cond.instanceMethod yX1_addResampled, Cond.selects RX1 yX1_addResampled yX1_addResampled, Cond.code yX1_addResampled cX1_addResampled 2 none, Cond.methodLink RX1 46 yX2_put, Cond.instanceMethod yX2_put, Cond.selects RX2 yX2_put yX2_put, Cond.code yX2_put cX2_put 3 none, Cond.methodLink RX4 107 yX1_many, Cond.instanceMethod yX1_many, Cond.selects RX1 yX1_many yX1_many, Cond.code yX1_many cX1_many 1 (some .int), Cond.methodLink RX4 152 yX0_chosenFor, Cond.instanceMethod yX0_chosenFor, Cond.selects RX0 yX0_chosenFor yX0_chosenFor, Cond.code yX0_chosenFor cX0_chosenFor 2 (some .int), Cond.methodLink RX4 113 yX1_placeIn, Cond.instanceMethod yX1_placeIn, Cond.selects RX1 yX1_placeIn yX1_placeIn, Cond.code yX1_placeIn cX1_placeIn 3 (some .int), Cond.methodLink RX1 58 yX2_at]
def wsX6_resample_r6 : List Cond := [Cond.methodLink RX4 120 yX1_putParticle, Cond.instanceMethod yX1_putParticle, Cond.selects RX1 yX1_putParticle yX1_putParticle, Cond.code yX1_putParticle cX1_putParticle 5 none, Cond.methodLink RX1 54 yX1_latest, Cond.methodLink RX4 155 yX0_noise, Cond.instanceMethod yX0_noise, Cond.selects RX0 yX0_noise yX0_noise, Cond.code yX0_noise cX0_noise 1 (some .int), Cond.methodLink RX4 71 yX5_makeEqual, Cond.instanceMethod yX5_makeEqual, Cond.selects RX5 yX5_makeEqual yX5_makeEqual, Cond.code yX5_makeEqual cX5_makeEqual 3 none, Cond.methodLink RX5 19 Lib.Math.min.name, Cond.static Lib.Math.min.name, Cond.initialized "java/lang/Math", Cond.code Lib.Math.min.name Lib.Math.min.code 2 (some .int), Cond.methodLink RX5 25 Lib.Math.max.name, Cond.static Lib.Math.max.name, Cond.code Lib.Math.max.name Lib.Math.max.code 2 (some .int), Cond.methodLink RX4 157 yX1_howManyAreAncestors, Cond.instanceMethod yX1_howManyAreAncestors, Cond.selects RX1 yX1_howManyAreAncestors yX1_howManyAreAncestors, Cond.code yX1_howManyAreAncestors cX1_howManyAreAncestors 4 (some .int)]
def wsX6_resample_r7 : List Cond := [Cond.methodLink RX1 61 yX1_ancestorIn, Cond.instanceMethod yX1_ancestorIn, Cond.selects RX1 yX1_ancestorIn yX1_ancestorIn, Cond.code yX1_ancestorIn cX1_ancestorIn 5 (some .int), Cond.methodLink RX1 65 yJ6_bitCount_0f7a4, Cond.static yJ6_bitCount_0f7a4, Cond.initialized RJ6, Cond.code yJ6_bitCount_0f7a4 cJ6_bitCount_0f7a4 1 (some .int), Cond.constant RJ6 265 (1431655765), Cond.constant RJ6 266 (858993459), Cond.constant RJ6 267 (252645135), Cond.methodLink RX6 55 yX6_keepDraftUnlessError, Cond.instanceMethod yX6_keepDraftUnlessError, Cond.selects RX6 yX6_keepDraftUnlessError yX6_keepDraftUnlessError, Cond.code yX6_keepDraftUnlessError cX6_keepDraftUnlessError 3 (some .int), Cond.fieldLink RX6 33 "ParticleLines" "oldestPast" "LParticleLines$State;", Cond.fieldLink RX6 30 "ParticleLines" "thirdPast" "LParticleLines$State;", Cond.fieldLink RX6 27 "ParticleLines" "secondPast" "LParticleLines$State;", Cond.fieldLink RX6 24 "ParticleLines" "latestPast" "LParticleLines$State;", Cond.fieldLink RX6 36 "ParticleLines" "recorded" "I", Cond.methodLink RX6 137 Lib.Math.min.name]
def wsX6_resample : List Cond := .code yX6_resample cX6_resample 1 (some .int) :: ((wsX6_resample_r1 ++ (wsX6_resample_r2 ++ (wsX6_resample_r3 ++ (wsX6_resample_r4 ++ (wsX6_resample_r5 ++ (wsX6_resample_r6 ++ wsX6_resample_r7)))))) ++ wsX60 ++ wsX40 ++ wsX10 ++ wsX20 ++ wsX50 ++ wsX00)
def wsX6_set_r1 : List Cond := [Cond.fieldLink RX6 21 "ParticleLines" "draft" "LParticleLines$State;", Cond.fieldLink RX6 15 "ParticleLines" "present" "LParticleLines$State;", Cond.methodLink RX6 47 yX4_copyState, Cond.instanceMethod yX4_copyState, Cond.selects RX4 yX4_copyState yX4_copyState, Cond.initialized RX4, Cond.code yX4_copyState cX4_copyState 2 none, Cond.fieldLink RX4 12 "ParticleLines$State" "lineage" "LParticleLines$Lineage;", Cond.fieldLink RX4 21 "ParticleLines$State" "weights" "LParticleLines$Weights;", Cond.fieldLink RX4 30 "ParticleLines$State" "settings" "LParticleLines$Row;", Cond.fieldLink RX4 58 "ParticleLines$State" "noise" "I", Cond.fieldLink RX4 62 "ParticleLines$State" "observations" "I", Cond.fieldLink RX4 65 "ParticleLines$State" "resamplings" "I", Cond.methodLink RX4 46 yX1_copyLineage, Cond.instanceMethod yX1_copyLineage, Cond.selects RX1 yX1_copyLineage yX1_copyLineage, Cond.initialized RX1, Cond.code yX1_copyLineage cX1_copyLineage 2 none, Cond.fieldLink RX1 14 "ParticleLines$Lineage" "places" "LParticleLines$Row;", Cond.fieldLink RX1 20 "ParticleLines$Lineage" "parents" "LParticleLines$Row;", Cond.fieldLink RX1 23 "ParticleLines$Lineage" "origins" "LParticleLines$Row;", Cond.fieldLink RX1 26 "ParticleLines$Lineage" "drifts" "LParticleLines$Row;", Cond.fieldLink RX1 29 "ParticleLines$Lineage" "spreads" "LParticleLines$Row;", Cond.fieldLink RX1 32 "ParticleLines$Lineage" "schemes" "LParticleLines$Row;"]
def wsX6_set_r2 : List Cond := [Cond.fieldLink RX1 35 "ParticleLines$Lineage" "many" "I", Cond.fieldLink RX1 39 "ParticleLines$Lineage" "generations" "I", Cond.methodLink RX1 42 yX2_copyRow, Cond.instanceMethod yX2_copyRow, Cond.selects RX2 yX2_copyRow yX2_copyRow, Cond.initialized RX2, Cond.code yX2_copyRow cX2_copyRow 3 none, Cond.fieldLink RX2 13 "ParticleLines$Row" "numbers" "[I", Cond.methodLink RX4 50 yX5_copyWeights, Cond.instanceMethod yX5_copyWeights, Cond.selects RX5 yX5_copyWeights yX5_copyWeights, Cond.initialized RX5, Cond.code yX5_copyWeights cX5_copyWeights 3 none, Cond.fieldLink RX5 15 "ParticleLines$Weights" "many" "I", Cond.fieldLink RX5 9 "ParticleLines$Weights" "weights" "[I", Cond.methodLink RX4 54 yX2_copyRow, Cond.methodLink RX6 73 yX4_putSetting, Cond.instanceMethod yX4_putSetting, Cond.selects RX4 yX4_putSetting yX4_putSetting, Cond.code yX4_putSetting cX4_putSetting 4 (some .int), Cond.constant RX4 78 (-1000001), Cond.static yX6_isWithin, Cond.initialized RX6, Cond.code yX6_isWithin cX6_isWithin 3 (some .boolean)]
def wsX6_set_r3 : List Cond := [Cond.methodLink RX4 160 yX4_greatestSetting, Cond.static yX4_greatestSetting, Cond.code yX4_greatestSetting cX4_greatestSetting 1 (some .int), Cond.methodLink RX4 137 yX2_at, Cond.instanceMethod yX2_at, Cond.selects RX2 yX2_at yX2_at, Cond.code yX2_at cX2_at 2 (some .int), Cond.methodLink RX4 38 yX2_put, Cond.instanceMethod yX2_put, Cond.selects RX2 yX2_put yX2_put, Cond.code yX2_put cX2_put 3 none, Cond.methodLink RX6 55 yX6_keepDraftUnlessError, Cond.instanceMethod yX6_keepDraftUnlessError, Cond.selects RX6 yX6_keepDraftUnlessError yX6_keepDraftUnlessError, Cond.code yX6_keepDraftUnlessError cX6_keepDraftUnlessError 3 (some .int), Cond.fieldLink RX6 33 "ParticleLines" "oldestPast" "LParticleLines$State;", Cond.fieldLink RX6 30 "ParticleLines" "thirdPast" "LParticleLines$State;", Cond.fieldLink RX6 27 "ParticleLines" "secondPast" "LParticleLines$State;", Cond.fieldLink RX6 24 "ParticleLines" "latestPast" "LParticleLines$State;", Cond.fieldLink RX6 36 "ParticleLines" "recorded" "I", Cond.methodLink RX6 137 Lib.Math.min.name, Cond.static Lib.Math.min.name, Cond.initialized "java/lang/Math", Cond.code Lib.Math.min.name Lib.Math.min.code 2 (some .int)]
def wsX6_set : List Cond := .code yX6_set cX6_set 3 (some .int) :: ((wsX6_set_r1 ++ (wsX6_set_r2 ++ wsX6_set_r3)) ++ wsX60 ++ wsX40 ++ wsX10 ++ wsX20 ++ wsX50)
def wsX6_particleOf_r1 : List Cond := [Cond.fieldLink RX6 15 "ParticleLines" "present" "LParticleLines$State;", Cond.constant RX6 84 (-1000001), Cond.methodLink RX6 76 yX4_hasParticle, Cond.instanceMethod yX4_hasParticle, Cond.selects RX4 yX4_hasParticle yX4_hasParticle, Cond.initialized RX4, Cond.code yX4_hasParticle cX4_hasParticle 2 (some .boolean), Cond.fieldLink RX4 12 "ParticleLines$State" "lineage" "LParticleLines$Lineage;", Cond.methodLink RX4 107 yX1_many, Cond.instanceMethod yX1_many, Cond.selects RX1 yX1_many yX1_many, Cond.initialized RX1, Cond.code yX1_many cX1_many 1 (some .int), Cond.fieldLink RX1 35 "ParticleLines$Lineage" "many" "I", Cond.static yX6_isWithin, Cond.initialized RX6, Cond.code yX6_isWithin cX6_isWithin 3 (some .boolean), Cond.methodLink RX6 80 yX6_isWithin, Cond.methodLink RX6 85 yX4_tellOfParticle, Cond.instanceMethod yX4_tellOfParticle, Cond.selects RX4 yX4_tellOfParticle yX4_tellOfParticle, Cond.code yX4_tellOfParticle cX4_tellOfParticle 6 (some .int), Cond.fieldLink RX4 21 "ParticleLines$State" "weights" "LParticleLines$Weights;", Cond.constant RX4 163 (-1000004)]
def wsX6_particleOf_r2 : List Cond := [Cond.methodLink RX4 101 yX1_latest, Cond.instanceMethod yX1_latest, Cond.selects RX1 yX1_latest yX1_latest, Cond.code yX1_latest cX1_latest 1 (some .int), Cond.fieldLink RX1 39 "ParticleLines$Lineage" "generations" "I", Cond.methodLink RX4 113 yX1_placeIn, Cond.instanceMethod yX1_placeIn, Cond.selects RX1 yX1_placeIn yX1_placeIn, Cond.code yX1_placeIn cX1_placeIn 3 (some .int), Cond.fieldLink RX1 14 "ParticleLines$Lineage" "places" "LParticleLines$Row;", Cond.methodLink RX1 58 yX2_at, Cond.instanceMethod yX2_at, Cond.selects RX2 yX2_at yX2_at, Cond.initialized RX2, Cond.code yX2_at cX2_at 2 (some .int), Cond.fieldLink RX2 13 "ParticleLines$Row" "numbers" "[I", Cond.methodLink RX4 96 yX5_weightOf, Cond.instanceMethod yX5_weightOf, Cond.selects RX5 yX5_weightOf yX5_weightOf, Cond.initialized RX5, Cond.code yX5_weightOf cX5_weightOf 2 (some .int), Cond.fieldLink RX5 9 "ParticleLines$Weights" "weights" "[I", Cond.methodLink RX4 164 yX1_parentIn, Cond.instanceMethod yX1_parentIn]
def wsX6_particleOf_r3 : List Cond := [Cond.selects RX1 yX1_parentIn yX1_parentIn, Cond.code yX1_parentIn cX1_parentIn 3 (some .int), Cond.fieldLink RX1 20 "ParticleLines$Lineage" "parents" "LParticleLines$Row;", Cond.methodLink RX4 167 yX1_howManyAt, Cond.instanceMethod yX1_howManyAt, Cond.selects RX1 yX1_howManyAt yX1_howManyAt, Cond.code yX1_howManyAt cX1_howManyAt 5 (some .int), Cond.methodLink RX1 70 yX1_placeIn, Cond.methodLink RX4 170 yX5_sum, Cond.instanceMethod yX5_sum, Cond.selects RX5 yX5_sum yX5_sum, Cond.code yX5_sum cX5_sum 4 (some .long), Cond.fieldLink RX5 15 "ParticleLines$Weights" "many" "I", Cond.static yX6_partInLowestTerms, Cond.code yX6_partInLowestTerms cX6_partInLowestTerms 7 (some .int), Cond.methodLink RX6 146 yX6_commonDivisor, Cond.static yX6_commonDivisor, Cond.code yX6_commonDivisor cX6_commonDivisor 11 (some .long), Cond.methodLink RX4 178 yX5_howManyAheadOf, Cond.instanceMethod yX5_howManyAheadOf, Cond.selects RX5 yX5_howManyAheadOf yX5_howManyAheadOf, Cond.code yX5_howManyAheadOf cX5_howManyAheadOf 5 (some .int), Cond.methodLink RX5 32 yX5_weightOf]
def wsX6_particleOf : List Cond := .code yX6_particleOf cX6_particleOf 3 (some .int) :: ((wsX6_particleOf_r1 ++ (wsX6_particleOf_r2 ++ wsX6_particleOf_r3)) ++ wsX60 ++ wsX40 ++ wsX10 ++ wsX20 ++ wsX50)
def wsX6_generationOf_r1 : List Cond := [Cond.fieldLink RX6 15 "ParticleLines" "present" "LParticleLines$State;", Cond.constant RX6 84 (-1000001), Cond.methodLink RX6 88 yX4_hasGeneration, Cond.instanceMethod yX4_hasGeneration, Cond.selects RX4 yX4_hasGeneration yX4_hasGeneration, Cond.initialized RX4, Cond.code yX4_hasGeneration cX4_hasGeneration 2 (some .boolean), Cond.fieldLink RX4 12 "ParticleLines$State" "lineage" "LParticleLines$Lineage;", Cond.methodLink RX4 101 yX1_latest, Cond.instanceMethod yX1_latest, Cond.selects RX1 yX1_latest yX1_latest, Cond.initialized RX1, Cond.code yX1_latest cX1_latest 1 (some .int), Cond.fieldLink RX1 39 "ParticleLines$Lineage" "generations" "I", Cond.static yX6_isWithin, Cond.initialized RX6, Cond.code yX6_isWithin cX6_isWithin 3 (some .boolean), Cond.methodLink RX6 80 yX6_isWithin, Cond.methodLink RX6 91 yX4_tellOfGeneration, Cond.instanceMethod yX4_tellOfGeneration, Cond.selects RX4 yX4_tellOfGeneration yX4_tellOfGeneration, Cond.code yX4_tellOfGeneration cX4_tellOfGeneration 4 (some .int), Cond.constant RX4 163 (-1000004), Cond.methodLink RX4 181 yX1_originOf]
def wsX6_generationOf_r2 : List Cond := [Cond.instanceMethod yX1_originOf, Cond.selects RX1 yX1_originOf yX1_originOf, Cond.code yX1_originOf cX1_originOf 2 (some .int), Cond.fieldLink RX1 23 "ParticleLines$Lineage" "origins" "LParticleLines$Row;", Cond.methodLink RX1 58 yX2_at, Cond.instanceMethod yX2_at, Cond.selects RX2 yX2_at yX2_at, Cond.initialized RX2, Cond.code yX2_at cX2_at 2 (some .int), Cond.fieldLink RX2 13 "ParticleLines$Row" "numbers" "[I", Cond.methodLink RX4 184 yX1_driftOf, Cond.instanceMethod yX1_driftOf, Cond.selects RX1 yX1_driftOf yX1_driftOf, Cond.code yX1_driftOf cX1_driftOf 2 (some .int), Cond.fieldLink RX1 26 "ParticleLines$Lineage" "drifts" "LParticleLines$Row;", Cond.methodLink RX4 187 yX1_spreadOf, Cond.instanceMethod yX1_spreadOf, Cond.selects RX1 yX1_spreadOf yX1_spreadOf, Cond.code yX1_spreadOf cX1_spreadOf 2 (some .int), Cond.fieldLink RX1 29 "ParticleLines$Lineage" "spreads" "LParticleLines$Row;", Cond.methodLink RX4 190 yX1_schemeOf, Cond.instanceMethod yX1_schemeOf, Cond.selects RX1 yX1_schemeOf yX1_schemeOf, Cond.code yX1_schemeOf cX1_schemeOf 2 (some .int)]
def wsX6_generationOf_r3 : List Cond := [Cond.fieldLink RX1 32 "ParticleLines$Lineage" "schemes" "LParticleLines$Row;", Cond.methodLink RX4 157 yX1_howManyAreAncestors, Cond.instanceMethod yX1_howManyAreAncestors, Cond.selects RX1 yX1_howManyAreAncestors yX1_howManyAreAncestors, Cond.code yX1_howManyAreAncestors cX1_howManyAreAncestors 4 (some .int), Cond.fieldLink RX1 35 "ParticleLines$Lineage" "many" "I", Cond.methodLink RX1 61 yX1_ancestorIn, Cond.instanceMethod yX1_ancestorIn, Cond.selects RX1 yX1_ancestorIn yX1_ancestorIn, Cond.code yX1_ancestorIn cX1_ancestorIn 5 (some .int), Cond.fieldLink RX1 20 "ParticleLines$Lineage" "parents" "LParticleLines$Row;", Cond.methodLink RX1 54 yX1_latest, Cond.methodLink RX1 65 yJ6_bitCount_0f7a4, Cond.static yJ6_bitCount_0f7a4, Cond.initialized RJ6, Cond.code yJ6_bitCount_0f7a4 cJ6_bitCount_0f7a4 1 (some .int), Cond.constant RJ6 265 (1431655765), Cond.constant RJ6 266 (858993459), Cond.constant RJ6 267 (252645135), Cond.methodLink RX4 193 yX1_howManyUnlikePlaces, Cond.instanceMethod yX1_howManyUnlikePlaces, Cond.selects RX1 yX1_howManyUnlikePlaces yX1_howManyUnlikePlaces, Cond.code yX1_howManyUnlikePlaces cX1_howManyUnlikePlaces 4 (some .int), Cond.methodLink RX1 73 yX1_isFirstAtItsPlace]
def wsX6_generationOf_r4 : List Cond := [Cond.instanceMethod yX1_isFirstAtItsPlace, Cond.selects RX1 yX1_isFirstAtItsPlace yX1_isFirstAtItsPlace, Cond.code yX1_isFirstAtItsPlace cX1_isFirstAtItsPlace 5 (some .boolean), Cond.methodLink RX1 70 yX1_placeIn, Cond.instanceMethod yX1_placeIn, Cond.selects RX1 yX1_placeIn yX1_placeIn, Cond.code yX1_placeIn cX1_placeIn 3 (some .int), Cond.fieldLink RX1 14 "ParticleLines$Lineage" "places" "LParticleLines$Row;"]
def wsX6_generationOf : List Cond := .code yX6_generationOf cX6_generationOf 3 (some .int) :: ((wsX6_generationOf_r1 ++ (wsX6_generationOf_r2 ++ (wsX6_generationOf_r3 ++ wsX6_generationOf_r4))) ++ wsX60 ++ wsX40 ++ wsX10 ++ wsX20)
def wsX6_ancestor_r1 : List Cond := [Cond.fieldLink RX6 15 "ParticleLines" "present" "LParticleLines$State;", Cond.constant RX6 84 (-1000001), Cond.methodLink RX6 76 yX4_hasParticle, Cond.instanceMethod yX4_hasParticle, Cond.selects RX4 yX4_hasParticle yX4_hasParticle, Cond.initialized RX4, Cond.code yX4_hasParticle cX4_hasParticle 2 (some .boolean), Cond.fieldLink RX4 12 "ParticleLines$State" "lineage" "LParticleLines$Lineage;", Cond.methodLink RX4 107 yX1_many, Cond.instanceMethod yX1_many, Cond.selects RX1 yX1_many yX1_many, Cond.initialized RX1, Cond.code yX1_many cX1_many 1 (some .int), Cond.fieldLink RX1 35 "ParticleLines$Lineage" "many" "I", Cond.static yX6_isWithin, Cond.initialized RX6, Cond.code yX6_isWithin cX6_isWithin 3 (some .boolean), Cond.methodLink RX6 88 yX4_hasGeneration, Cond.instanceMethod yX4_hasGeneration, Cond.selects RX4 yX4_hasGeneration yX4_hasGeneration, Cond.code yX4_hasGeneration cX4_hasGeneration 2 (some .boolean), Cond.methodLink RX4 101 yX1_latest, Cond.instanceMethod yX1_latest, Cond.selects RX1 yX1_latest yX1_latest]
def wsX6_ancestor_r2 : List Cond := [Cond.code yX1_latest cX1_latest 1 (some .int), Cond.fieldLink RX1 39 "ParticleLines$Lineage" "generations" "I", Cond.methodLink RX6 80 yX6_isWithin, Cond.methodLink RX6 94 yX4_tellOfAncestor, Cond.instanceMethod yX4_tellOfAncestor, Cond.selects RX4 yX4_tellOfAncestor yX4_tellOfAncestor, Cond.code yX4_tellOfAncestor cX4_tellOfAncestor 5 (some .int), Cond.methodLink RX4 196 yX1_ancestorIn, Cond.instanceMethod yX1_ancestorIn, Cond.selects RX1 yX1_ancestorIn yX1_ancestorIn, Cond.code yX1_ancestorIn cX1_ancestorIn 5 (some .int), Cond.fieldLink RX1 20 "ParticleLines$Lineage" "parents" "LParticleLines$Row;", Cond.methodLink RX1 54 yX1_latest, Cond.methodLink RX1 58 yX2_at, Cond.instanceMethod yX2_at, Cond.selects RX2 yX2_at yX2_at, Cond.initialized RX2, Cond.code yX2_at cX2_at 2 (some .int), Cond.fieldLink RX2 13 "ParticleLines$Row" "numbers" "[I", Cond.methodLink RX4 113 yX1_placeIn, Cond.instanceMethod yX1_placeIn, Cond.selects RX1 yX1_placeIn yX1_placeIn, Cond.code yX1_placeIn cX1_placeIn 3 (some .int), Cond.fieldLink RX1 14 "ParticleLines$Lineage" "places" "LParticleLines$Row;"]
def wsX6_ancestor : List Cond := .code yX6_ancestor cX6_ancestor 4 (some .int) :: ((wsX6_ancestor_r1 ++ wsX6_ancestor_r2) ++ wsX60 ++ wsX40 ++ wsX10 ++ wsX20)
def wsX6_common_r1 : List Cond := [Cond.fieldLink RX6 15 "ParticleLines" "present" "LParticleLines$State;", Cond.constant RX6 84 (-1000001), Cond.methodLink RX6 76 yX4_hasParticle, Cond.instanceMethod yX4_hasParticle, Cond.selects RX4 yX4_hasParticle yX4_hasParticle, Cond.initialized RX4, Cond.code yX4_hasParticle cX4_hasParticle 2 (some .boolean), Cond.fieldLink RX4 12 "ParticleLines$State" "lineage" "LParticleLines$Lineage;", Cond.methodLink RX4 107 yX1_many, Cond.instanceMethod yX1_many, Cond.selects RX1 yX1_many yX1_many, Cond.initialized RX1, Cond.code yX1_many cX1_many 1 (some .int), Cond.fieldLink RX1 35 "ParticleLines$Lineage" "many" "I", Cond.static yX6_isWithin, Cond.initialized RX6, Cond.code yX6_isWithin cX6_isWithin 3 (some .boolean), Cond.methodLink RX6 97 yX4_meetingOfTwo, Cond.instanceMethod yX4_meetingOfTwo, Cond.selects RX4 yX4_meetingOfTwo yX4_meetingOfTwo, Cond.code yX4_meetingOfTwo cX4_meetingOfTwo 3 (some .int), Cond.methodLink RX4 199 yX1_meetingOf, Cond.instanceMethod yX1_meetingOf, Cond.selects RX1 yX1_meetingOf yX1_meetingOf]
def wsX6_common_r2 : List Cond := [Cond.code yX1_meetingOf cX1_meetingOf 6 (some .int), Cond.constant RX1 80 (-1000004), Cond.methodLink RX1 54 yX1_latest, Cond.instanceMethod yX1_latest, Cond.selects RX1 yX1_latest yX1_latest, Cond.code yX1_latest cX1_latest 1 (some .int), Cond.fieldLink RX1 39 "ParticleLines$Lineage" "generations" "I", Cond.methodLink RX1 77 yX1_parentIn, Cond.instanceMethod yX1_parentIn, Cond.selects RX1 yX1_parentIn yX1_parentIn, Cond.code yX1_parentIn cX1_parentIn 3 (some .int), Cond.fieldLink RX1 20 "ParticleLines$Lineage" "parents" "LParticleLines$Row;", Cond.methodLink RX1 58 yX2_at, Cond.instanceMethod yX2_at, Cond.selects RX2 yX2_at yX2_at, Cond.initialized RX2, Cond.code yX2_at cX2_at 2 (some .int), Cond.fieldLink RX2 13 "ParticleLines$Row" "numbers" "[I"]
def wsX6_common : List Cond := .code yX6_common cX6_common 3 (some .int) :: ((wsX6_common_r1 ++ wsX6_common_r2) ++ wsX60 ++ wsX40 ++ wsX10 ++ wsX20)
def wsX6_root_r1 : List Cond := [Cond.fieldLink RX6 15 "ParticleLines" "present" "LParticleLines$State;", Cond.methodLink RX6 100 yX4_meetingOfAll, Cond.instanceMethod yX4_meetingOfAll, Cond.selects RX4 yX4_meetingOfAll yX4_meetingOfAll, Cond.initialized RX4, Cond.code yX4_meetingOfAll cX4_meetingOfAll 3 (some .int), Cond.fieldLink RX4 12 "ParticleLines$State" "lineage" "LParticleLines$Lineage;", Cond.methodLink RX4 202 Lib.Math.min.name, Cond.static Lib.Math.min.name, Cond.initialized "java/lang/Math", Cond.code Lib.Math.min.name Lib.Math.min.code 2 (some .int), Cond.methodLink RX4 101 yX1_latest, Cond.instanceMethod yX1_latest, Cond.selects RX1 yX1_latest yX1_latest, Cond.initialized RX1, Cond.code yX1_latest cX1_latest 1 (some .int), Cond.fieldLink RX1 39 "ParticleLines$Lineage" "generations" "I", Cond.methodLink RX4 107 yX1_many, Cond.instanceMethod yX1_many, Cond.selects RX1 yX1_many yX1_many, Cond.code yX1_many cX1_many 1 (some .int), Cond.fieldLink RX1 35 "ParticleLines$Lineage" "many" "I", Cond.methodLink RX4 199 yX1_meetingOf, Cond.instanceMethod yX1_meetingOf]
def wsX6_root_r2 : List Cond := [Cond.selects RX1 yX1_meetingOf yX1_meetingOf, Cond.code yX1_meetingOf cX1_meetingOf 6 (some .int), Cond.constant RX1 80 (-1000004), Cond.methodLink RX1 54 yX1_latest, Cond.methodLink RX1 77 yX1_parentIn, Cond.instanceMethod yX1_parentIn, Cond.selects RX1 yX1_parentIn yX1_parentIn, Cond.code yX1_parentIn cX1_parentIn 3 (some .int), Cond.fieldLink RX1 20 "ParticleLines$Lineage" "parents" "LParticleLines$Row;", Cond.methodLink RX1 58 yX2_at, Cond.instanceMethod yX2_at, Cond.selects RX2 yX2_at yX2_at, Cond.initialized RX2, Cond.code yX2_at cX2_at 2 (some .int), Cond.fieldLink RX2 13 "ParticleLines$Row" "numbers" "[I"]
def wsX6_root : List Cond := .code yX6_root cX6_root 1 (some .int) :: ((wsX6_root_r1 ++ wsX6_root_r2) ++ wsX60 ++ wsX40 ++ wsX10 ++ wsX20)
def wsX6_mean_r1 : List Cond := [Cond.fieldLink RX6 15 "ParticleLines" "present" "LParticleLines$State;", Cond.constant RX6 84 (-1000001), Cond.methodLink RX6 88 yX4_hasGeneration, Cond.instanceMethod yX4_hasGeneration, Cond.selects RX4 yX4_hasGeneration yX4_hasGeneration, Cond.initialized RX4, Cond.code yX4_hasGeneration cX4_hasGeneration 2 (some .boolean), Cond.fieldLink RX4 12 "ParticleLines$State" "lineage" "LParticleLines$Lineage;", Cond.methodLink RX4 101 yX1_latest, Cond.instanceMethod yX1_latest, Cond.selects RX1 yX1_latest yX1_latest, Cond.initialized RX1, Cond.code yX1_latest cX1_latest 1 (some .int), Cond.fieldLink RX1 39 "ParticleLines$Lineage" "generations" "I", Cond.static yX6_isWithin, Cond.initialized RX6, Cond.code yX6_isWithin cX6_isWithin 3 (some .boolean), Cond.methodLink RX6 80 yX6_isWithin, Cond.methodLink RX6 103 yX4_partOfMean, Cond.instanceMethod yX4_partOfMean, Cond.selects RX4 yX4_partOfMean yX4_partOfMean, Cond.code yX4_partOfMean cX4_partOfMean 8 (some .int), Cond.fieldLink RX4 21 "ParticleLines$State" "weights" "LParticleLines$Weights;", Cond.methodLink RX4 107 yX1_many]
def wsX6_mean_r2 : List Cond := [Cond.instanceMethod yX1_many, Cond.selects RX1 yX1_many yX1_many, Cond.code yX1_many cX1_many 1 (some .int), Cond.fieldLink RX1 35 "ParticleLines$Lineage" "many" "I", Cond.methodLink RX4 196 yX1_ancestorIn, Cond.instanceMethod yX1_ancestorIn, Cond.selects RX1 yX1_ancestorIn yX1_ancestorIn, Cond.code yX1_ancestorIn cX1_ancestorIn 5 (some .int), Cond.fieldLink RX1 20 "ParticleLines$Lineage" "parents" "LParticleLines$Row;", Cond.methodLink RX1 54 yX1_latest, Cond.methodLink RX1 58 yX2_at, Cond.instanceMethod yX2_at, Cond.selects RX2 yX2_at yX2_at, Cond.initialized RX2, Cond.code yX2_at cX2_at 2 (some .int), Cond.fieldLink RX2 13 "ParticleLines$Row" "numbers" "[I", Cond.methodLink RX4 113 yX1_placeIn, Cond.instanceMethod yX1_placeIn, Cond.selects RX1 yX1_placeIn yX1_placeIn, Cond.code yX1_placeIn cX1_placeIn 3 (some .int), Cond.fieldLink RX1 14 "ParticleLines$Lineage" "places" "LParticleLines$Row;", Cond.methodLink RX4 96 yX5_weightOf, Cond.instanceMethod yX5_weightOf, Cond.selects RX5 yX5_weightOf yX5_weightOf]
def wsX6_mean_r3 : List Cond := [Cond.initialized RX5, Cond.code yX5_weightOf cX5_weightOf 2 (some .int), Cond.fieldLink RX5 9 "ParticleLines$Weights" "weights" "[I", Cond.methodLink RX4 170 yX5_sum, Cond.instanceMethod yX5_sum, Cond.selects RX5 yX5_sum yX5_sum, Cond.code yX5_sum cX5_sum 4 (some .long), Cond.fieldLink RX5 15 "ParticleLines$Weights" "many" "I", Cond.static yX6_partInLowestTerms, Cond.code yX6_partInLowestTerms cX6_partInLowestTerms 7 (some .int), Cond.methodLink RX6 146 yX6_commonDivisor, Cond.static yX6_commonDivisor, Cond.code yX6_commonDivisor cX6_commonDivisor 11 (some .long)]
def wsX6_mean : List Cond := .code yX6_mean cX6_mean 3 (some .int) :: ((wsX6_mean_r1 ++ (wsX6_mean_r2 ++ wsX6_mean_r3)) ++ wsX60 ++ wsX40 ++ wsX10 ++ wsX20 ++ wsX50)
def wsX6_share_r1 : List Cond := [Cond.fieldLink RX6 15 "ParticleLines" "present" "LParticleLines$State;", Cond.constant RX6 84 (-1000001), Cond.methodLink RX6 88 yX4_hasGeneration, Cond.instanceMethod yX4_hasGeneration, Cond.selects RX4 yX4_hasGeneration yX4_hasGeneration, Cond.initialized RX4, Cond.code yX4_hasGeneration cX4_hasGeneration 2 (some .boolean), Cond.fieldLink RX4 12 "ParticleLines$State" "lineage" "LParticleLines$Lineage;", Cond.methodLink RX4 101 yX1_latest, Cond.instanceMethod yX1_latest, Cond.selects RX1 yX1_latest yX1_latest, Cond.initialized RX1, Cond.code yX1_latest cX1_latest 1 (some .int), Cond.fieldLink RX1 39 "ParticleLines$Lineage" "generations" "I", Cond.static yX6_isWithin, Cond.initialized RX6, Cond.code yX6_isWithin cX6_isWithin 3 (some .boolean), Cond.methodLink RX6 80 yX6_isWithin, Cond.methodLink RX6 106 yX4_partOfShare, Cond.instanceMethod yX4_partOfShare, Cond.selects RX4 yX4_partOfShare yX4_partOfShare, Cond.code yX4_partOfShare cX4_partOfShare 9 (some .int), Cond.fieldLink RX4 21 "ParticleLines$State" "weights" "LParticleLines$Weights;", Cond.methodLink RX4 107 yX1_many]
def wsX6_share_r2 : List Cond := [Cond.instanceMethod yX1_many, Cond.selects RX1 yX1_many yX1_many, Cond.code yX1_many cX1_many 1 (some .int), Cond.fieldLink RX1 35 "ParticleLines$Lineage" "many" "I", Cond.methodLink RX4 196 yX1_ancestorIn, Cond.instanceMethod yX1_ancestorIn, Cond.selects RX1 yX1_ancestorIn yX1_ancestorIn, Cond.code yX1_ancestorIn cX1_ancestorIn 5 (some .int), Cond.fieldLink RX1 20 "ParticleLines$Lineage" "parents" "LParticleLines$Row;", Cond.methodLink RX1 54 yX1_latest, Cond.methodLink RX1 58 yX2_at, Cond.instanceMethod yX2_at, Cond.selects RX2 yX2_at yX2_at, Cond.initialized RX2, Cond.code yX2_at cX2_at 2 (some .int), Cond.fieldLink RX2 13 "ParticleLines$Row" "numbers" "[I", Cond.methodLink RX4 113 yX1_placeIn, Cond.instanceMethod yX1_placeIn, Cond.selects RX1 yX1_placeIn yX1_placeIn, Cond.code yX1_placeIn cX1_placeIn 3 (some .int), Cond.fieldLink RX1 14 "ParticleLines$Lineage" "places" "LParticleLines$Row;", Cond.methodLink RX4 96 yX5_weightOf, Cond.instanceMethod yX5_weightOf, Cond.selects RX5 yX5_weightOf yX5_weightOf]
def wsX6_share_r3 : List Cond := [Cond.initialized RX5, Cond.code yX5_weightOf cX5_weightOf 2 (some .int), Cond.fieldLink RX5 9 "ParticleLines$Weights" "weights" "[I", Cond.methodLink RX4 170 yX5_sum, Cond.instanceMethod yX5_sum, Cond.selects RX5 yX5_sum yX5_sum, Cond.code yX5_sum cX5_sum 4 (some .long), Cond.fieldLink RX5 15 "ParticleLines$Weights" "many" "I", Cond.static yX6_partInLowestTerms, Cond.code yX6_partInLowestTerms cX6_partInLowestTerms 7 (some .int), Cond.methodLink RX6 146 yX6_commonDivisor, Cond.static yX6_commonDivisor, Cond.code yX6_commonDivisor cX6_commonDivisor 11 (some .long)]
def wsX6_share : List Cond := .code yX6_share cX6_share 5 (some .int) :: ((wsX6_share_r1 ++ (wsX6_share_r2 ++ wsX6_share_r3)) ++ wsX60 ++ wsX40 ++ wsX10 ++ wsX20 ++ wsX50)
def wsX6_would_r1 : List Cond := [Cond.fieldLink RX6 15 "ParticleLines" "present" "LParticleLines$State;", Cond.constant RX6 84 (-1000001), Cond.methodLink RX6 80 yX6_isWithin, Cond.static yX6_isWithin, Cond.initialized RX6, Cond.code yX6_isWithin cX6_isWithin 3 (some .boolean), Cond.methodLink RX6 76 yX4_hasParticle, Cond.instanceMethod yX4_hasParticle, Cond.selects RX4 yX4_hasParticle yX4_hasParticle, Cond.initialized RX4, Cond.code yX4_hasParticle cX4_hasParticle 2 (some .boolean), Cond.fieldLink RX4 12 "ParticleLines$State" "lineage" "LParticleLines$Lineage;", Cond.methodLink RX4 107 yX1_many, Cond.instanceMethod yX1_many, Cond.selects RX1 yX1_many yX1_many, Cond.initialized RX1, Cond.code yX1_many cX1_many 1 (some .int), Cond.fieldLink RX1 35 "ParticleLines$Lineage" "many" "I", Cond.methodLink RX6 110 yX4_chosenBy, Cond.instanceMethod yX4_chosenBy, Cond.selects RX4 yX4_chosenBy yX4_chosenBy, Cond.code yX4_chosenBy cX4_chosenBy 3 (some .int), Cond.fieldLink RX4 34 "ParticleLines$State" "choice" "LParticleLines$Choice;", Cond.fieldLink RX4 21 "ParticleLines$State" "weights" "LParticleLines$Weights;"]
def wsX6_would_r2 : List Cond := [Cond.fieldLink RX4 30 "ParticleLines$State" "settings" "LParticleLines$Row;", Cond.fieldLink RX4 58 "ParticleLines$State" "noise" "I", Cond.methodLink RX4 137 yX2_at, Cond.instanceMethod yX2_at, Cond.selects RX2 yX2_at yX2_at, Cond.initialized RX2, Cond.code yX2_at cX2_at 2 (some .int), Cond.fieldLink RX2 13 "ParticleLines$Row" "numbers" "[I", Cond.methodLink RX4 143 yX0_choose, Cond.instanceMethod yX0_choose, Cond.selects RX0 yX0_choose yX0_choose, Cond.initialized RX0, Cond.code yX0_choose cX0_choose 5 none, Cond.fieldLink RX0 19 "ParticleLines$Choice" "noise" "I", Cond.methodLink RX0 23 yX0_chooseByOffset, Cond.instanceMethod yX0_chooseByOffset, Cond.selects RX0 yX0_chooseByOffset yX0_chooseByOffset, Cond.code yX0_chooseByOffset cX0_chooseByOffset 8 none, Cond.constantLong RX0 40 (100), Cond.fieldLink RX0 9 "ParticleLines$Choice" "ancestors" "[I", Cond.methodLink RX0 34 yX5_sum, Cond.instanceMethod yX5_sum, Cond.selects RX5 yX5_sum yX5_sum, Cond.initialized RX5]
def wsX6_would_r3 : List Cond := [Cond.code yX5_sum cX5_sum 4 (some .long), Cond.fieldLink RX5 15 "ParticleLines$Weights" "many" "I", Cond.fieldLink RX5 9 "ParticleLines$Weights" "weights" "[I", Cond.methodLink RX0 45 yX5_firstAbove, Cond.instanceMethod yX5_firstAbove, Cond.selects RX5 yX5_firstAbove yX5_firstAbove, Cond.code yX5_firstAbove cX5_firstAbove 6 (some .int), Cond.methodLink RX0 27 yX0_chooseByNoises, Cond.instanceMethod yX0_chooseByNoises, Cond.selects RX0 yX0_chooseByNoises yX0_chooseByNoises, Cond.code yX0_chooseByNoises cX0_chooseByNoises 5 none, Cond.static yX6_noiseBehind, Cond.code yX6_noiseBehind cX6_noiseBehind 1 (some .int), Cond.constant RX6 145 (65537), Cond.methodLink RX0 31 yX0_chooseByShares, Cond.instanceMethod yX0_chooseByShares, Cond.selects RX0 yX0_chooseByShares yX0_chooseByShares, Cond.code yX0_chooseByShares cX0_chooseByShares 13 none, Cond.fieldLink RX0 15 "ParticleLines$Choice" "rests" "[J", Cond.methodLink RX0 53 yX5_weightOf, Cond.instanceMethod yX5_weightOf, Cond.selects RX5 yX5_weightOf yX5_weightOf, Cond.code yX5_weightOf cX5_weightOf 2 (some .int), Cond.methodLink RX0 56 yX0_restsAheadOf]
def wsX6_would_r4 : List Cond := [Cond.instanceMethod yX0_restsAheadOf, Cond.selects RX0 yX0_restsAheadOf yX0_restsAheadOf, Cond.code yX0_restsAheadOf cX0_restsAheadOf 8 (some .int), Cond.methodLink RX4 152 yX0_chosenFor, Cond.instanceMethod yX0_chosenFor, Cond.selects RX0 yX0_chosenFor yX0_chosenFor, Cond.code yX0_chosenFor cX0_chosenFor 2 (some .int)]
def wsX6_would : List Cond := .code yX6_would cX6_would 3 (some .int) :: ((wsX6_would_r1 ++ (wsX6_would_r2 ++ (wsX6_would_r3 ++ wsX6_would_r4))) ++ wsX60 ++ wsX40 ++ wsX10 ++ wsX20 ++ wsX00 ++ wsX50)
def wsX6_count_r1 : List Cond := [Cond.fieldLink RX6 36 "ParticleLines" "recorded" "I", Cond.fieldLink RX6 43 "ParticleLines" "script" "LParticleLines$Script;", Cond.fieldLink RX6 15 "ParticleLines" "present" "LParticleLines$State;", Cond.methodLink RX6 113 yX3_length, Cond.instanceMethod yX3_length, Cond.selects RX3 yX3_length yX3_length, Cond.initialized RX3, Cond.code yX3_length cX3_length 1 (some .int), Cond.fieldLink RX3 15 "ParticleLines$Script" "length" "I", Cond.methodLink RX6 116 yX4_number, Cond.instanceMethod yX4_number, Cond.selects RX4 yX4_number yX4_number, Cond.initialized RX4, Cond.code yX4_number cX4_number 2 (some .int), Cond.fieldLink RX4 12 "ParticleLines$State" "lineage" "LParticleLines$Lineage;", Cond.fieldLink RX4 21 "ParticleLines$State" "weights" "LParticleLines$Weights;", Cond.fieldLink RX4 58 "ParticleLines$State" "noise" "I", Cond.fieldLink RX4 62 "ParticleLines$State" "observations" "I", Cond.fieldLink RX4 65 "ParticleLines$State" "resamplings" "I", Cond.fieldLink RX4 30 "ParticleLines$State" "settings" "LParticleLines$Row;", Cond.constant RX4 78 (-1000001), Cond.methodLink RX4 107 yX1_many, Cond.instanceMethod yX1_many, Cond.selects RX1 yX1_many yX1_many]
def wsX6_count_r2 : List Cond := [Cond.initialized RX1, Cond.code yX1_many cX1_many 1 (some .int), Cond.fieldLink RX1 35 "ParticleLines$Lineage" "many" "I", Cond.methodLink RX4 79 yX1_generations, Cond.instanceMethod yX1_generations, Cond.selects RX1 yX1_generations yX1_generations, Cond.code yX1_generations cX1_generations 1 (some .int), Cond.fieldLink RX1 39 "ParticleLines$Lineage" "generations" "I", Cond.methodLink RX4 170 yX5_sum, Cond.instanceMethod yX5_sum, Cond.selects RX5 yX5_sum yX5_sum, Cond.initialized RX5, Cond.code yX5_sum cX5_sum 4 (some .long), Cond.fieldLink RX5 15 "ParticleLines$Weights" "many" "I", Cond.fieldLink RX5 9 "ParticleLines$Weights" "weights" "[I", Cond.methodLink RX4 134 yX5_effectiveCount, Cond.instanceMethod yX5_effectiveCount, Cond.selects RX5 yX5_effectiveCount yX5_effectiveCount, Cond.code yX5_effectiveCount cX5_effectiveCount 8 (some .int), Cond.methodLink RX4 205 yX5_howManyAreZero, Cond.instanceMethod yX5_howManyAreZero, Cond.selects RX5 yX5_howManyAreZero yX5_howManyAreZero, Cond.code yX5_howManyAreZero cX5_howManyAreZero 3 (some .int), Cond.methodLink RX4 101 yX1_latest]
def wsX6_count_r3 : List Cond := [Cond.instanceMethod yX1_latest, Cond.selects RX1 yX1_latest yX1_latest, Cond.code yX1_latest cX1_latest 1 (some .int), Cond.methodLink RX4 193 yX1_howManyUnlikePlaces, Cond.instanceMethod yX1_howManyUnlikePlaces, Cond.selects RX1 yX1_howManyUnlikePlaces yX1_howManyUnlikePlaces, Cond.code yX1_howManyUnlikePlaces cX1_howManyUnlikePlaces 4 (some .int), Cond.methodLink RX1 73 yX1_isFirstAtItsPlace, Cond.instanceMethod yX1_isFirstAtItsPlace, Cond.selects RX1 yX1_isFirstAtItsPlace yX1_isFirstAtItsPlace, Cond.code yX1_isFirstAtItsPlace cX1_isFirstAtItsPlace 5 (some .boolean), Cond.methodLink RX1 70 yX1_placeIn, Cond.instanceMethod yX1_placeIn, Cond.selects RX1 yX1_placeIn yX1_placeIn, Cond.code yX1_placeIn cX1_placeIn 3 (some .int), Cond.fieldLink RX1 14 "ParticleLines$Lineage" "places" "LParticleLines$Row;", Cond.methodLink RX1 58 yX2_at, Cond.instanceMethod yX2_at, Cond.selects RX2 yX2_at yX2_at, Cond.initialized RX2, Cond.code yX2_at cX2_at 2 (some .int), Cond.fieldLink RX2 13 "ParticleLines$Row" "numbers" "[I", Cond.methodLink RX4 137 yX2_at]
def wsX6_count : List Cond := .code yX6_count cX6_count 2 (some .int) :: ((wsX6_count_r1 ++ (wsX6_count_r2 ++ wsX6_count_r3)) ++ wsX60 ++ wsX30 ++ wsX40 ++ wsX10 ++ wsX50 ++ wsX20)
def wsX6_undo : List Cond := .code yX6_undo cX6_undo 2 (some .int) :: ([.fieldLink RX6 36 "ParticleLines" "recorded" "I", .constant RX6 119 (-1000002), .fieldLink RX6 15 "ParticleLines" "present" "LParticleLines$State;", .fieldLink RX6 24 "ParticleLines" "latestPast" "LParticleLines$State;", .fieldLink RX6 27 "ParticleLines" "secondPast" "LParticleLines$State;", .fieldLink RX6 30 "ParticleLines" "thirdPast" "LParticleLines$State;", .fieldLink RX6 33 "ParticleLines" "oldestPast" "LParticleLines$State;"] ++ wsX60)
def wsX6_type : List Cond := .code yX6_type cX6_type 2 (some .int) :: ([.constant RX6 84 (-1000001), .fieldLink RX6 43 "ParticleLines" "script" "LParticleLines$Script;", .methodLink RX6 80 yX6_isWithin, .static yX6_isWithin, .initialized RX6, .code yX6_isWithin cX6_isWithin 3 (some .boolean), .methodLink RX6 120 yX3_append, .instanceMethod yX3_append, .selects RX3 yX3_append yX3_append, .initialized RX3, .code yX3_append cX3_append 2 (some .int), .fieldLink RX3 15 "ParticleLines$Script" "length" "I", .fieldLink RX3 9 "ParticleLines$Script" "characters" "[I", .constant RX3 19 (-1000003)] ++ wsX60 ++ wsX30)
def wsX6_clearText : List Cond := .code yX6_clearText cX6_clearText 1 (some .int) :: ([.fieldLink RX6 43 "ParticleLines" "script" "LParticleLines$Script;", .methodLink RX6 123 yX3_empty, .instanceMethod yX3_empty, .selects RX3 yX3_empty yX3_empty, .initialized RX3, .code yX3_empty cX3_empty 2 (some .int), .fieldLink RX3 15 "ParticleLines$Script" "length" "I"] ++ wsX60 ++ wsX30)
def wsX6_fault_r1 : List Cond := [Cond.constant RX6 84 (-1000001), Cond.fieldLink RX6 21 "ParticleLines" "draft" "LParticleLines$State;", Cond.fieldLink RX6 15 "ParticleLines" "present" "LParticleLines$State;", Cond.fieldLink RX6 43 "ParticleLines" "script" "LParticleLines$Script;", Cond.constant RX6 130 (-1000004), Cond.methodLink RX6 80 yX6_isWithin, Cond.static yX6_isWithin, Cond.initialized RX6, Cond.code yX6_isWithin cX6_isWithin 3 (some .boolean), Cond.methodLink RX6 47 yX4_copyState, Cond.instanceMethod yX4_copyState, Cond.selects RX4 yX4_copyState yX4_copyState, Cond.initialized RX4, Cond.code yX4_copyState cX4_copyState 2 none, Cond.fieldLink RX4 12 "ParticleLines$State" "lineage" "LParticleLines$Lineage;", Cond.fieldLink RX4 21 "ParticleLines$State" "weights" "LParticleLines$Weights;", Cond.fieldLink RX4 30 "ParticleLines$State" "settings" "LParticleLines$Row;", Cond.fieldLink RX4 58 "ParticleLines$State" "noise" "I", Cond.fieldLink RX4 62 "ParticleLines$State" "observations" "I", Cond.fieldLink RX4 65 "ParticleLines$State" "resamplings" "I", Cond.methodLink RX4 46 yX1_copyLineage, Cond.instanceMethod yX1_copyLineage, Cond.selects RX1 yX1_copyLineage yX1_copyLineage, Cond.initialized RX1]
def wsX6_fault_r2 : List Cond := [Cond.code yX1_copyLineage cX1_copyLineage 2 none, Cond.fieldLink RX1 14 "ParticleLines$Lineage" "places" "LParticleLines$Row;", Cond.fieldLink RX1 20 "ParticleLines$Lineage" "parents" "LParticleLines$Row;", Cond.fieldLink RX1 23 "ParticleLines$Lineage" "origins" "LParticleLines$Row;", Cond.fieldLink RX1 26 "ParticleLines$Lineage" "drifts" "LParticleLines$Row;", Cond.fieldLink RX1 29 "ParticleLines$Lineage" "spreads" "LParticleLines$Row;", Cond.fieldLink RX1 32 "ParticleLines$Lineage" "schemes" "LParticleLines$Row;", Cond.fieldLink RX1 35 "ParticleLines$Lineage" "many" "I", Cond.fieldLink RX1 39 "ParticleLines$Lineage" "generations" "I", Cond.methodLink RX1 42 yX2_copyRow, Cond.instanceMethod yX2_copyRow, Cond.selects RX2 yX2_copyRow yX2_copyRow, Cond.initialized RX2, Cond.code yX2_copyRow cX2_copyRow 3 none, Cond.fieldLink RX2 13 "ParticleLines$Row" "numbers" "[I", Cond.methodLink RX4 50 yX5_copyWeights, Cond.instanceMethod yX5_copyWeights, Cond.selects RX5 yX5_copyWeights yX5_copyWeights, Cond.initialized RX5, Cond.code yX5_copyWeights cX5_copyWeights 3 none, Cond.fieldLink RX5 15 "ParticleLines$Weights" "many" "I", Cond.fieldLink RX5 9 "ParticleLines$Weights" "weights" "[I", Cond.methodLink RX4 54 yX2_copyRow, Cond.methodLink RX6 126 yX3_perform]
def wsX6_fault_r3 : List Cond := [Cond.instanceMethod yX3_perform, Cond.selects RX3 yX3_perform yX3_perform, Cond.initialized RX3, Cond.code yX3_perform cX3_perform 4 (some .boolean), Cond.fieldLink RX3 32 "ParticleLines$Script" "position" "I", Cond.fieldLink RX3 20 "ParticleLines$Script" "ordersDone" "I", Cond.fieldLink RX3 15 "ParticleLines$Script" "length" "I", Cond.fieldLink RX3 23 "ParticleLines$Script" "start" "I", Cond.fieldLink RX3 26 "ParticleLines$Script" "reason" "I", Cond.fieldLink RX3 29 "ParticleLines$Script" "cause" "I", Cond.fieldLink RX3 39 "ParticleLines$Script" "kind" "I", Cond.fieldLink RX3 42 "ParticleLines$Script" "first" "I", Cond.fieldLink RX3 45 "ParticleLines$Script" "second" "I", Cond.methodLink RX3 35 yX3_readOrder, Cond.instanceMethod yX3_readOrder, Cond.selects RX3 yX3_readOrder yX3_readOrder, Cond.code yX3_readOrder cX3_readOrder 1 (some .boolean), Cond.methodLink RX3 61 yX3_here, Cond.instanceMethod yX3_here, Cond.selects RX3 yX3_here yX3_here, Cond.code yX3_here cX3_here 1 (some .int), Cond.fieldLink RX3 9 "ParticleLines$Script" "characters" "[I", Cond.methodLink RX3 64 yX3_readNumbers, Cond.instanceMethod yX3_readNumbers]
def wsX6_fault_r4 : List Cond := [Cond.selects RX3 yX3_readNumbers yX3_readNumbers, Cond.code yX3_readNumbers cX3_readNumbers 3 (some .boolean), Cond.methodLink RX3 67 yX3_pass, Cond.instanceMethod yX3_pass, Cond.selects RX3 yX3_pass yX3_pass, Cond.code yX3_pass cX3_pass 2 (some .boolean), Cond.methodLink RX3 71 yX3_isDigitHere, Cond.instanceMethod yX3_isDigitHere, Cond.selects RX3 yX3_isDigitHere yX3_isDigitHere, Cond.code yX3_isDigitHere cX3_isDigitHere 1 (some .boolean), Cond.methodLink RX3 74 yX3_readNumber, Cond.instanceMethod yX3_readNumber, Cond.selects RX3 yX3_readNumber yX3_readNumber, Cond.code yX3_readNumber cX3_readNumber 3 (some .int), Cond.methodLink RX3 48 yX4_shift, Cond.instanceMethod yX4_shift, Cond.selects RX4 yX4_shift yX4_shift, Cond.code yX4_shift cX4_shift 6 (some .int), Cond.constant RX4 78 (-1000001), Cond.constant RX4 100 (-1000003), Cond.methodLink RX4 79 yX1_generations, Cond.instanceMethod yX1_generations, Cond.selects RX1 yX1_generations yX1_generations, Cond.code yX1_generations cX1_generations 1 (some .int)]
def wsX6_fault_r5 : List Cond := [Cond.methodLink RX4 101 yX1_latest, Cond.instanceMethod yX1_latest, Cond.selects RX1 yX1_latest yX1_latest, Cond.code yX1_latest cX1_latest 1 (some .int), Cond.methodLink RX4 104 yX1_addMoved, Cond.instanceMethod yX1_addMoved, Cond.selects RX1 yX1_addMoved yX1_addMoved, Cond.code yX1_addMoved cX1_addMoved 3 none, Cond.methodLink RX1 46 yX2_put, Cond.instanceMethod yX2_put, Cond.selects RX2 yX2_put yX2_put, Cond.code yX2_put cX2_put 3 none, Cond.methodLink RX4 107 yX1_many, Cond.instanceMethod yX1_many, Cond.selects RX1 yX1_many yX1_many, Cond.code yX1_many cX1_many 1 (some .int), Cond.static yX6_noiseBehind, Cond.code yX6_noiseBehind cX6_noiseBehind 1 (some .int), Cond.constant RX6 145 (65537), Cond.methodLink RX4 113 yX1_placeIn, Cond.instanceMethod yX1_placeIn, Cond.selects RX1 yX1_placeIn yX1_placeIn, Cond.code yX1_placeIn cX1_placeIn 3 (some .int), Cond.methodLink RX1 58 yX2_at]
def wsX6_fault_r6 : List Cond := [Cond.instanceMethod yX2_at, Cond.selects RX2 yX2_at yX2_at, Cond.code yX2_at cX2_at 2 (some .int), Cond.static yX6_nearestPlace, Cond.code yX6_nearestPlace cX6_nearestPlace 1 (some .int), Cond.methodLink RX6 137 Lib.Math.min.name, Cond.static Lib.Math.min.name, Cond.initialized "java/lang/Math", Cond.code Lib.Math.min.name Lib.Math.min.code 2 (some .int), Cond.methodLink RX6 142 Lib.Math.max.name, Cond.static Lib.Math.max.name, Cond.code Lib.Math.max.name Lib.Math.max.code 2 (some .int), Cond.methodLink RX4 120 yX1_putParticle, Cond.instanceMethod yX1_putParticle, Cond.selects RX1 yX1_putParticle yX1_putParticle, Cond.code yX1_putParticle cX1_putParticle 5 none, Cond.methodLink RX1 54 yX1_latest, Cond.methodLink RX3 54 yX4_look, Cond.instanceMethod yX4_look, Cond.selects RX4 yX4_look yX4_look, Cond.code yX4_look cX4_look 5 (some .int), Cond.methodLink RX4 123 Lib.Math.abs.name, Cond.static Lib.Math.abs.name, Cond.code Lib.Math.abs.name Lib.Math.abs.code 1 (some .int)]
def wsX6_fault_r7 : List Cond := [Cond.methodLink RX4 128 Lib.Math.max.name, Cond.constant RX4 95 (-1000002), Cond.constant RX4 87 (1000000), Cond.methodLink RX4 96 yX5_weightOf, Cond.instanceMethod yX5_weightOf, Cond.selects RX5 yX5_weightOf yX5_weightOf, Cond.code yX5_weightOf cX5_weightOf 2 (some .int), Cond.methodLink RX4 88 yX5_putWeight, Cond.instanceMethod yX5_putWeight, Cond.selects RX5 yX5_putWeight yX5_putWeight, Cond.code yX5_putWeight cX5_putWeight 3 none, Cond.methodLink RX4 91 yX5_reduce, Cond.instanceMethod yX5_reduce, Cond.selects RX5 yX5_reduce yX5_reduce, Cond.code yX5_reduce cX5_reduce 4 (some .boolean), Cond.static yX6_commonDivisor, Cond.code yX6_commonDivisor cX6_commonDivisor 11 (some .long), Cond.methodLink RX4 131 yX5_greatest, Cond.instanceMethod yX5_greatest, Cond.selects RX5 yX5_greatest yX5_greatest, Cond.code yX5_greatest cX5_greatest 3 (some .int), Cond.methodLink RX5 25 Lib.Math.max.name, Cond.methodLink RX4 134 yX5_effectiveCount, Cond.instanceMethod yX5_effectiveCount]
def wsX6_fault_r8 : List Cond := [Cond.selects RX5 yX5_effectiveCount yX5_effectiveCount, Cond.code yX5_effectiveCount cX5_effectiveCount 8 (some .int), Cond.methodLink RX4 137 yX2_at, Cond.methodLink RX4 140 yX4_renew, Cond.instanceMethod yX4_renew, Cond.selects RX4 yX4_renew yX4_renew, Cond.code yX4_renew cX4_renew 5 (some .int), Cond.fieldLink RX4 34 "ParticleLines$State" "choice" "LParticleLines$Choice;", Cond.methodLink RX4 143 yX0_choose, Cond.instanceMethod yX0_choose, Cond.selects RX0 yX0_choose yX0_choose, Cond.initialized RX0, Cond.code yX0_choose cX0_choose 5 none, Cond.fieldLink RX0 19 "ParticleLines$Choice" "noise" "I", Cond.methodLink RX0 23 yX0_chooseByOffset, Cond.instanceMethod yX0_chooseByOffset, Cond.selects RX0 yX0_chooseByOffset yX0_chooseByOffset, Cond.code yX0_chooseByOffset cX0_chooseByOffset 8 none, Cond.constantLong RX0 40 (100), Cond.fieldLink RX0 9 "ParticleLines$Choice" "ancestors" "[I", Cond.methodLink RX0 34 yX5_sum, Cond.instanceMethod yX5_sum, Cond.selects RX5 yX5_sum yX5_sum, Cond.code yX5_sum cX5_sum 4 (some .long)]
def wsX6_fault_r9 : List Cond := [Cond.methodLink RX0 45 yX5_firstAbove, Cond.instanceMethod yX5_firstAbove, Cond.selects RX5 yX5_firstAbove yX5_firstAbove, Cond.code yX5_firstAbove cX5_firstAbove 6 (some .int), Cond.methodLink RX0 27 yX0_chooseByNoises, Cond.instanceMethod yX0_chooseByNoises, Cond.selects RX0 yX0_chooseByNoises yX0_chooseByNoises, Cond.code yX0_chooseByNoises cX0_chooseByNoises 5 none, Cond.methodLink RX0 31 yX0_chooseByShares, Cond.instanceMethod yX0_chooseByShares, Cond.selects RX0 yX0_chooseByShares yX0_chooseByShares, Cond.code yX0_chooseByShares cX0_chooseByShares 13 none, Cond.fieldLink RX0 15 "ParticleLines$Choice" "rests" "[J", Cond.methodLink RX0 53 yX5_weightOf, Cond.methodLink RX0 56 yX0_restsAheadOf, Cond.instanceMethod yX0_restsAheadOf, Cond.selects RX0 yX0_restsAheadOf yX0_restsAheadOf, Cond.code yX0_restsAheadOf cX0_restsAheadOf 8 (some .int), Cond.methodLink RX4 149 yX1_addResampled, Cond.instanceMethod yX1_addResampled, Cond.selects RX1 yX1_addResampled yX1_addResampled, Cond.code yX1_addResampled cX1_addResampled 2 none, Cond.methodLink RX4 152 yX0_chosenFor, Cond.instanceMethod yX0_chosenFor]
def wsX6_fault_r10 : List Cond := [Cond.selects RX0 yX0_chosenFor yX0_chosenFor, Cond.code yX0_chosenFor cX0_chosenFor 2 (some .int), Cond.methodLink RX4 155 yX0_noise, Cond.instanceMethod yX0_noise, Cond.selects RX0 yX0_noise yX0_noise, Cond.code yX0_noise cX0_noise 1 (some .int), Cond.methodLink RX4 71 yX5_makeEqual, Cond.instanceMethod yX5_makeEqual, Cond.selects RX5 yX5_makeEqual yX5_makeEqual, Cond.code yX5_makeEqual cX5_makeEqual 3 none, Cond.methodLink RX5 19 Lib.Math.min.name, Cond.methodLink RX4 157 yX1_howManyAreAncestors, Cond.instanceMethod yX1_howManyAreAncestors, Cond.selects RX1 yX1_howManyAreAncestors yX1_howManyAreAncestors, Cond.code yX1_howManyAreAncestors cX1_howManyAreAncestors 4 (some .int), Cond.methodLink RX1 61 yX1_ancestorIn, Cond.instanceMethod yX1_ancestorIn, Cond.selects RX1 yX1_ancestorIn yX1_ancestorIn, Cond.code yX1_ancestorIn cX1_ancestorIn 5 (some .int), Cond.methodLink RX1 65 yJ6_bitCount_0f7a4, Cond.static yJ6_bitCount_0f7a4, Cond.initialized RJ6, Cond.code yJ6_bitCount_0f7a4 cJ6_bitCount_0f7a4 1 (some .int), Cond.constant RJ6 265 (1431655765)]
def wsX6_fault_r11 : List Cond := [Cond.constant RJ6 266 (858993459), Cond.constant RJ6 267 (252645135), Cond.methodLink RX3 57 yX4_renew, Cond.methodLink RX6 131 yX3_tellOfFault, Cond.instanceMethod yX3_tellOfFault, Cond.selects RX3 yX3_tellOfFault yX3_tellOfFault, Cond.code yX3_tellOfFault cX3_tellOfFault 2 (some .int)]
def wsX6_fault : List Cond := .code yX6_fault cX6_fault 2 (some .int) :: ((wsX6_fault_r1 ++ (wsX6_fault_r2 ++ (wsX6_fault_r3 ++ (wsX6_fault_r4 ++ (wsX6_fault_r5 ++ (wsX6_fault_r6 ++ (wsX6_fault_r7 ++ (wsX6_fault_r8 ++ (wsX6_fault_r9 ++ (wsX6_fault_r10 ++ wsX6_fault_r11)))))))))) ++ wsX60 ++ wsX40 ++ wsX10 ++ wsX20 ++ wsX50 ++ wsX30 ++ wsX00)
def wsX6_play_r1 : List Cond := [Cond.fieldLink RX6 21 "ParticleLines" "draft" "LParticleLines$State;", Cond.fieldLink RX6 15 "ParticleLines" "present" "LParticleLines$State;", Cond.fieldLink RX6 43 "ParticleLines" "script" "LParticleLines$Script;", Cond.constant RX6 119 (-1000002), Cond.methodLink RX6 47 yX4_copyState, Cond.instanceMethod yX4_copyState, Cond.selects RX4 yX4_copyState yX4_copyState, Cond.initialized RX4, Cond.code yX4_copyState cX4_copyState 2 none, Cond.fieldLink RX4 12 "ParticleLines$State" "lineage" "LParticleLines$Lineage;", Cond.fieldLink RX4 21 "ParticleLines$State" "weights" "LParticleLines$Weights;", Cond.fieldLink RX4 30 "ParticleLines$State" "settings" "LParticleLines$Row;", Cond.fieldLink RX4 58 "ParticleLines$State" "noise" "I", Cond.fieldLink RX4 62 "ParticleLines$State" "observations" "I", Cond.fieldLink RX4 65 "ParticleLines$State" "resamplings" "I", Cond.methodLink RX4 46 yX1_copyLineage, Cond.instanceMethod yX1_copyLineage, Cond.selects RX1 yX1_copyLineage yX1_copyLineage, Cond.initialized RX1, Cond.code yX1_copyLineage cX1_copyLineage 2 none, Cond.fieldLink RX1 14 "ParticleLines$Lineage" "places" "LParticleLines$Row;", Cond.fieldLink RX1 20 "ParticleLines$Lineage" "parents" "LParticleLines$Row;", Cond.fieldLink RX1 23 "ParticleLines$Lineage" "origins" "LParticleLines$Row;", Cond.fieldLink RX1 26 "ParticleLines$Lineage" "drifts" "LParticleLines$Row;"]
def wsX6_play_r2 : List Cond := [Cond.fieldLink RX1 29 "ParticleLines$Lineage" "spreads" "LParticleLines$Row;", Cond.fieldLink RX1 32 "ParticleLines$Lineage" "schemes" "LParticleLines$Row;", Cond.fieldLink RX1 35 "ParticleLines$Lineage" "many" "I", Cond.fieldLink RX1 39 "ParticleLines$Lineage" "generations" "I", Cond.methodLink RX1 42 yX2_copyRow, Cond.instanceMethod yX2_copyRow, Cond.selects RX2 yX2_copyRow yX2_copyRow, Cond.initialized RX2, Cond.code yX2_copyRow cX2_copyRow 3 none, Cond.fieldLink RX2 13 "ParticleLines$Row" "numbers" "[I", Cond.methodLink RX4 50 yX5_copyWeights, Cond.instanceMethod yX5_copyWeights, Cond.selects RX5 yX5_copyWeights yX5_copyWeights, Cond.initialized RX5, Cond.code yX5_copyWeights cX5_copyWeights 3 none, Cond.fieldLink RX5 15 "ParticleLines$Weights" "many" "I", Cond.fieldLink RX5 9 "ParticleLines$Weights" "weights" "[I", Cond.methodLink RX4 54 yX2_copyRow, Cond.methodLink RX6 126 yX3_perform, Cond.instanceMethod yX3_perform, Cond.selects RX3 yX3_perform yX3_perform, Cond.initialized RX3, Cond.code yX3_perform cX3_perform 4 (some .boolean), Cond.fieldLink RX3 32 "ParticleLines$Script" "position" "I"]
def wsX6_play_r3 : List Cond := [Cond.fieldLink RX3 20 "ParticleLines$Script" "ordersDone" "I", Cond.fieldLink RX3 15 "ParticleLines$Script" "length" "I", Cond.fieldLink RX3 23 "ParticleLines$Script" "start" "I", Cond.fieldLink RX3 26 "ParticleLines$Script" "reason" "I", Cond.fieldLink RX3 29 "ParticleLines$Script" "cause" "I", Cond.fieldLink RX3 39 "ParticleLines$Script" "kind" "I", Cond.fieldLink RX3 42 "ParticleLines$Script" "first" "I", Cond.fieldLink RX3 45 "ParticleLines$Script" "second" "I", Cond.methodLink RX3 35 yX3_readOrder, Cond.instanceMethod yX3_readOrder, Cond.selects RX3 yX3_readOrder yX3_readOrder, Cond.code yX3_readOrder cX3_readOrder 1 (some .boolean), Cond.methodLink RX3 61 yX3_here, Cond.instanceMethod yX3_here, Cond.selects RX3 yX3_here yX3_here, Cond.code yX3_here cX3_here 1 (some .int), Cond.fieldLink RX3 9 "ParticleLines$Script" "characters" "[I", Cond.methodLink RX3 64 yX3_readNumbers, Cond.instanceMethod yX3_readNumbers, Cond.selects RX3 yX3_readNumbers yX3_readNumbers, Cond.code yX3_readNumbers cX3_readNumbers 3 (some .boolean), Cond.methodLink RX3 67 yX3_pass, Cond.instanceMethod yX3_pass, Cond.selects RX3 yX3_pass yX3_pass]
def wsX6_play_r4 : List Cond := [Cond.code yX3_pass cX3_pass 2 (some .boolean), Cond.methodLink RX3 71 yX3_isDigitHere, Cond.instanceMethod yX3_isDigitHere, Cond.selects RX3 yX3_isDigitHere yX3_isDigitHere, Cond.code yX3_isDigitHere cX3_isDigitHere 1 (some .boolean), Cond.static yX6_isWithin, Cond.initialized RX6, Cond.code yX6_isWithin cX6_isWithin 3 (some .boolean), Cond.methodLink RX3 74 yX3_readNumber, Cond.instanceMethod yX3_readNumber, Cond.selects RX3 yX3_readNumber yX3_readNumber, Cond.code yX3_readNumber cX3_readNumber 3 (some .int), Cond.methodLink RX3 48 yX4_shift, Cond.instanceMethod yX4_shift, Cond.selects RX4 yX4_shift yX4_shift, Cond.code yX4_shift cX4_shift 6 (some .int), Cond.constant RX4 78 (-1000001), Cond.constant RX4 100 (-1000003), Cond.methodLink RX4 79 yX1_generations, Cond.instanceMethod yX1_generations, Cond.selects RX1 yX1_generations yX1_generations, Cond.code yX1_generations cX1_generations 1 (some .int), Cond.methodLink RX4 101 yX1_latest, Cond.instanceMethod yX1_latest]
def wsX6_play_r5 : List Cond := [Cond.selects RX1 yX1_latest yX1_latest, Cond.code yX1_latest cX1_latest 1 (some .int), Cond.methodLink RX4 104 yX1_addMoved, Cond.instanceMethod yX1_addMoved, Cond.selects RX1 yX1_addMoved yX1_addMoved, Cond.code yX1_addMoved cX1_addMoved 3 none, Cond.methodLink RX1 46 yX2_put, Cond.instanceMethod yX2_put, Cond.selects RX2 yX2_put yX2_put, Cond.code yX2_put cX2_put 3 none, Cond.methodLink RX4 107 yX1_many, Cond.instanceMethod yX1_many, Cond.selects RX1 yX1_many yX1_many, Cond.code yX1_many cX1_many 1 (some .int), Cond.static yX6_noiseBehind, Cond.code yX6_noiseBehind cX6_noiseBehind 1 (some .int), Cond.constant RX6 145 (65537), Cond.methodLink RX4 113 yX1_placeIn, Cond.instanceMethod yX1_placeIn, Cond.selects RX1 yX1_placeIn yX1_placeIn, Cond.code yX1_placeIn cX1_placeIn 3 (some .int), Cond.methodLink RX1 58 yX2_at, Cond.instanceMethod yX2_at, Cond.selects RX2 yX2_at yX2_at]
def wsX6_play_r6 : List Cond := [Cond.code yX2_at cX2_at 2 (some .int), Cond.static yX6_nearestPlace, Cond.code yX6_nearestPlace cX6_nearestPlace 1 (some .int), Cond.methodLink RX6 137 Lib.Math.min.name, Cond.static Lib.Math.min.name, Cond.initialized "java/lang/Math", Cond.code Lib.Math.min.name Lib.Math.min.code 2 (some .int), Cond.methodLink RX6 142 Lib.Math.max.name, Cond.static Lib.Math.max.name, Cond.code Lib.Math.max.name Lib.Math.max.code 2 (some .int), Cond.methodLink RX4 120 yX1_putParticle, Cond.instanceMethod yX1_putParticle, Cond.selects RX1 yX1_putParticle yX1_putParticle, Cond.code yX1_putParticle cX1_putParticle 5 none, Cond.methodLink RX1 54 yX1_latest, Cond.methodLink RX3 54 yX4_look, Cond.instanceMethod yX4_look, Cond.selects RX4 yX4_look yX4_look, Cond.code yX4_look cX4_look 5 (some .int), Cond.methodLink RX4 123 Lib.Math.abs.name, Cond.static Lib.Math.abs.name, Cond.code Lib.Math.abs.name Lib.Math.abs.code 1 (some .int), Cond.methodLink RX4 128 Lib.Math.max.name, Cond.constant RX4 95 (-1000002)]
def wsX6_play_r7 : List Cond := [Cond.constant RX4 87 (1000000), Cond.methodLink RX4 96 yX5_weightOf, Cond.instanceMethod yX5_weightOf, Cond.selects RX5 yX5_weightOf yX5_weightOf, Cond.code yX5_weightOf cX5_weightOf 2 (some .int), Cond.methodLink RX4 88 yX5_putWeight, Cond.instanceMethod yX5_putWeight, Cond.selects RX5 yX5_putWeight yX5_putWeight, Cond.code yX5_putWeight cX5_putWeight 3 none, Cond.methodLink RX4 91 yX5_reduce, Cond.instanceMethod yX5_reduce, Cond.selects RX5 yX5_reduce yX5_reduce, Cond.code yX5_reduce cX5_reduce 4 (some .boolean), Cond.static yX6_commonDivisor, Cond.code yX6_commonDivisor cX6_commonDivisor 11 (some .long), Cond.methodLink RX4 131 yX5_greatest, Cond.instanceMethod yX5_greatest, Cond.selects RX5 yX5_greatest yX5_greatest, Cond.code yX5_greatest cX5_greatest 3 (some .int), Cond.methodLink RX5 25 Lib.Math.max.name, Cond.methodLink RX4 134 yX5_effectiveCount, Cond.instanceMethod yX5_effectiveCount, Cond.selects RX5 yX5_effectiveCount yX5_effectiveCount, Cond.code yX5_effectiveCount cX5_effectiveCount 8 (some .int)]
def wsX6_play_r8 : List Cond := [Cond.methodLink RX4 137 yX2_at, Cond.methodLink RX4 140 yX4_renew, Cond.instanceMethod yX4_renew, Cond.selects RX4 yX4_renew yX4_renew, Cond.code yX4_renew cX4_renew 5 (some .int), Cond.fieldLink RX4 34 "ParticleLines$State" "choice" "LParticleLines$Choice;", Cond.methodLink RX4 143 yX0_choose, Cond.instanceMethod yX0_choose, Cond.selects RX0 yX0_choose yX0_choose, Cond.initialized RX0, Cond.code yX0_choose cX0_choose 5 none, Cond.fieldLink RX0 19 "ParticleLines$Choice" "noise" "I", Cond.methodLink RX0 23 yX0_chooseByOffset, Cond.instanceMethod yX0_chooseByOffset, Cond.selects RX0 yX0_chooseByOffset yX0_chooseByOffset, Cond.code yX0_chooseByOffset cX0_chooseByOffset 8 none, Cond.constantLong RX0 40 (100), Cond.fieldLink RX0 9 "ParticleLines$Choice" "ancestors" "[I", Cond.methodLink RX0 34 yX5_sum, Cond.instanceMethod yX5_sum, Cond.selects RX5 yX5_sum yX5_sum, Cond.code yX5_sum cX5_sum 4 (some .long), Cond.methodLink RX0 45 yX5_firstAbove, Cond.instanceMethod yX5_firstAbove]
def wsX6_play_r9 : List Cond := [Cond.selects RX5 yX5_firstAbove yX5_firstAbove, Cond.code yX5_firstAbove cX5_firstAbove 6 (some .int), Cond.methodLink RX0 27 yX0_chooseByNoises, Cond.instanceMethod yX0_chooseByNoises, Cond.selects RX0 yX0_chooseByNoises yX0_chooseByNoises, Cond.code yX0_chooseByNoises cX0_chooseByNoises 5 none, Cond.methodLink RX0 31 yX0_chooseByShares, Cond.instanceMethod yX0_chooseByShares, Cond.selects RX0 yX0_chooseByShares yX0_chooseByShares, Cond.code yX0_chooseByShares cX0_chooseByShares 13 none, Cond.fieldLink RX0 15 "ParticleLines$Choice" "rests" "[J", Cond.methodLink RX0 53 yX5_weightOf, Cond.methodLink RX0 56 yX0_restsAheadOf, Cond.instanceMethod yX0_restsAheadOf, Cond.selects RX0 yX0_restsAheadOf yX0_restsAheadOf, Cond.code yX0_restsAheadOf cX0_restsAheadOf 8 (some .int), Cond.methodLink RX4 149 yX1_addResampled, Cond.instanceMethod yX1_addResampled, Cond.selects RX1 yX1_addResampled yX1_addResampled, Cond.code yX1_addResampled cX1_addResampled 2 none, Cond.methodLink RX4 152 yX0_chosenFor, Cond.instanceMethod yX0_chosenFor, Cond.selects RX0 yX0_chosenFor yX0_chosenFor, Cond.code yX0_chosenFor cX0_chosenFor 2 (some .int)]
def wsX6_play_r10 : List Cond := [Cond.methodLink RX4 155 yX0_noise, Cond.instanceMethod yX0_noise, Cond.selects RX0 yX0_noise yX0_noise, Cond.code yX0_noise cX0_noise 1 (some .int), Cond.methodLink RX4 71 yX5_makeEqual, Cond.instanceMethod yX5_makeEqual, Cond.selects RX5 yX5_makeEqual yX5_makeEqual, Cond.code yX5_makeEqual cX5_makeEqual 3 none, Cond.methodLink RX5 19 Lib.Math.min.name, Cond.methodLink RX4 157 yX1_howManyAreAncestors, Cond.instanceMethod yX1_howManyAreAncestors, Cond.selects RX1 yX1_howManyAreAncestors yX1_howManyAreAncestors, Cond.code yX1_howManyAreAncestors cX1_howManyAreAncestors 4 (some .int), Cond.methodLink RX1 61 yX1_ancestorIn, Cond.instanceMethod yX1_ancestorIn, Cond.selects RX1 yX1_ancestorIn yX1_ancestorIn, Cond.code yX1_ancestorIn cX1_ancestorIn 5 (some .int), Cond.methodLink RX1 65 yJ6_bitCount_0f7a4, Cond.static yJ6_bitCount_0f7a4, Cond.initialized RJ6, Cond.code yJ6_bitCount_0f7a4 cJ6_bitCount_0f7a4 1 (some .int), Cond.constant RJ6 265 (1431655765), Cond.constant RJ6 266 (858993459), Cond.constant RJ6 267 (252645135)]
def wsX6_play_r11 : List Cond := [Cond.methodLink RX3 57 yX4_renew, Cond.methodLink RX6 134 yX3_ordersDone, Cond.instanceMethod yX3_ordersDone, Cond.selects RX3 yX3_ordersDone yX3_ordersDone, Cond.code yX3_ordersDone cX3_ordersDone 1 (some .int), Cond.methodLink RX6 55 yX6_keepDraftUnlessError, Cond.instanceMethod yX6_keepDraftUnlessError, Cond.selects RX6 yX6_keepDraftUnlessError yX6_keepDraftUnlessError, Cond.code yX6_keepDraftUnlessError cX6_keepDraftUnlessError 3 (some .int), Cond.fieldLink RX6 33 "ParticleLines" "oldestPast" "LParticleLines$State;", Cond.fieldLink RX6 30 "ParticleLines" "thirdPast" "LParticleLines$State;", Cond.fieldLink RX6 27 "ParticleLines" "secondPast" "LParticleLines$State;", Cond.fieldLink RX6 24 "ParticleLines" "latestPast" "LParticleLines$State;", Cond.fieldLink RX6 36 "ParticleLines" "recorded" "I"]
def wsX6_play : List Cond := .code yX6_play cX6_play 1 (some .int) :: ((wsX6_play_r1 ++ (wsX6_play_r2 ++ (wsX6_play_r3 ++ (wsX6_play_r4 ++ (wsX6_play_r5 ++ (wsX6_play_r6 ++ (wsX6_play_r7 ++ (wsX6_play_r8 ++ (wsX6_play_r9 ++ (wsX6_play_r10 ++ wsX6_play_r11)))))))))) ++ wsX60 ++ wsX40 ++ wsX10 ++ wsX20 ++ wsX50 ++ wsX30 ++ wsX00)
def wsX7_lays : List Cond := .code yX7_lays cX7_lays 6 none :: ([.fieldLink RX7 7 "ParticleLinesModel" "s" "[I", .constant RX7 50 (-1000004)] ++ wsX70)
def wsX7_init : List Cond := .code yX7_init cX7_init 1 none :: ([.methodLink RX7 1 objectInit, .instanceMethod objectInit, .code objectInit ⟨#[0xb1]⟩ 1 none, .arrayClass .int, .fieldLink RX7 7 "ParticleLinesModel" "s" "[I", .fieldLink RX7 13 "ParticleLinesModel" "past" "[I", .fieldLink RX7 16 "ParticleLinesModel" "held" "[I", .fieldLink RX7 19 "ParticleLinesModel" "text" "[I", .fieldLink RX7 22 "ParticleLinesModel" "chosen" "[I", .fieldLink RX7 25 "ParticleLinesModel" "times" "[I", .arrayClass .long, .fieldLink RX7 28 "ParticleLinesModel" "rests" "[J", .fieldLink RX7 32 "ParticleLinesModel" "before" "[I", .fieldLink RX7 35 "ParticleLinesModel" "told" "[I", .methodLink RX7 38 yX7_lays, .instanceMethod yX7_lays, .selects RX7 yX7_lays yX7_lays, .initialized RX7, .code yX7_lays cX7_lays 6 none, .constant RX7 50 (-1000004)] ++ wsX70)
def wsX7_in : List Cond := .code yX7_in cX7_in 3 (some .boolean) :: ([])
def wsX7_copies : List Cond := .code yX7_copies cX7_copies 3 none :: ([])
def wsX7_changes : List Cond := .code yX7_changes cX7_changes 2 none :: ([.fieldLink RX7 42 "ParticleLinesModel" "runs" "Z", .fieldLink RX7 46 "ParticleLinesModel" "pasts" "I", .fieldLink RX7 13 "ParticleLinesModel" "past" "[I", .fieldLink RX7 7 "ParticleLinesModel" "s" "[I"] ++ wsX70)
def wsX7_isParticle : List Cond := .code yX7_isParticle cX7_isParticle 2 (some .boolean) :: ([.fieldLink RX7 7 "ParticleLinesModel" "s" "[I"] ++ wsX70)
def wsX7_isGeneration : List Cond := .code yX7_isGeneration cX7_isGeneration 2 (some .boolean) :: ([.fieldLink RX7 7 "ParticleLinesModel" "s" "[I"] ++ wsX70)
def wsX7_latest : List Cond := .code yX7_latest cX7_latest 1 (some .int) :: ([.fieldLink RX7 7 "ParticleLinesModel" "s" "[I"] ++ wsX70)
def wsX7_placeIn : List Cond := .code yX7_placeIn cX7_placeIn 3 (some .int) :: ([.fieldLink RX7 7 "ParticleLinesModel" "s" "[I"] ++ wsX70)
def wsX7_takes : List Cond := .code yX7_takes cX7_takes 1 (some .int) :: ([.fieldLink RX7 7 "ParticleLinesModel" "s" "[I", .constant RX7 51 (65537)] ++ wsX70)
def wsX7_divisor : List Cond := .code yX7_divisor cX7_divisor 5 (some .int) :: ([])
def wsX7_sum : List Cond := .code yX7_sum cX7_sum 3 (some .int) :: ([.fieldLink RX7 7 "ParticleLinesModel" "s" "[I"] ++ wsX70)
def wsX7_effective : List Cond := .code yX7_effective cX7_effective 6 (some .int) :: ([.fieldLink RX7 7 "ParticleLinesModel" "s" "[I", .methodLink RX7 52 yX7_sum, .instanceMethod yX7_sum, .selects RX7 yX7_sum yX7_sum, .initialized RX7, .code yX7_sum cX7_sum 3 (some .int)] ++ wsX70)
def wsX7_divides : List Cond := .code yX7_divides cX7_divides 4 (some .int) :: ([.fieldLink RX7 7 "ParticleLinesModel" "s" "[I", .methodLink RX7 56 yX7_divisor, .static yX7_divisor, .initialized RX7, .code yX7_divisor cX7_divisor 5 (some .int)] ++ wsX70)
def wsX7_byPoints : List Cond := .code yX7_byPoints cX7_byPoints 13 none :: ([.fieldLink RX7 7 "ParticleLinesModel" "s" "[I", .constantLong RX7 60 (100), .fieldLink RX7 22 "ParticleLinesModel" "chosen" "[I", .methodLink RX7 52 yX7_sum, .instanceMethod yX7_sum, .selects RX7 yX7_sum yX7_sum, .initialized RX7, .code yX7_sum cX7_sum 3 (some .int), .methodLink RX7 62 yX7_takes, .instanceMethod yX7_takes, .selects RX7 yX7_takes yX7_takes, .code yX7_takes cX7_takes 1 (some .int), .constant RX7 51 (65537)] ++ wsX70)
def wsX7_byTimes : List Cond := .code yX7_byTimes cX7_byTimes 8 none :: ([.fieldLink RX7 7 "ParticleLinesModel" "s" "[I", .fieldLink RX7 25 "ParticleLinesModel" "times" "[I", .fieldLink RX7 28 "ParticleLinesModel" "rests" "[J", .constantLong RX7 65 (-1), .fieldLink RX7 22 "ParticleLinesModel" "chosen" "[I", .methodLink RX7 52 yX7_sum, .instanceMethod yX7_sum, .selects RX7 yX7_sum yX7_sum, .initialized RX7, .code yX7_sum cX7_sum 3 (some .int)] ++ wsX70)
def wsX7_chooses : List Cond := .code yX7_chooses cX7_chooses 2 none :: ([.methodLink RX7 67 yX7_byTimes, .instanceMethod yX7_byTimes, .selects RX7 yX7_byTimes yX7_byTimes, .initialized RX7, .code yX7_byTimes cX7_byTimes 8 none, .fieldLink RX7 7 "ParticleLinesModel" "s" "[I", .fieldLink RX7 25 "ParticleLinesModel" "times" "[I", .fieldLink RX7 28 "ParticleLinesModel" "rests" "[J", .constantLong RX7 65 (-1), .fieldLink RX7 22 "ParticleLinesModel" "chosen" "[I", .methodLink RX7 52 yX7_sum, .instanceMethod yX7_sum, .selects RX7 yX7_sum yX7_sum, .code yX7_sum cX7_sum 3 (some .int), .methodLink RX7 70 yX7_byPoints, .instanceMethod yX7_byPoints, .selects RX7 yX7_byPoints yX7_byPoints, .code yX7_byPoints cX7_byPoints 13 none, .constantLong RX7 60 (100), .methodLink RX7 62 yX7_takes, .instanceMethod yX7_takes, .selects RX7 yX7_takes yX7_takes, .code yX7_takes cX7_takes 1 (some .int), .constant RX7 51 (65537)] ++ wsX70)
def wsX7_follows : List Cond := .code yX7_follows cX7_follows 7 (some .int) :: ([.fieldLink RX7 7 "ParticleLinesModel" "s" "[I"] ++ wsX70)
def wsX7_resamples_r1 : List Cond := [Cond.fieldLink RX7 7 "ParticleLinesModel" "s" "[I", Cond.fieldLink RX7 22 "ParticleLinesModel" "chosen" "[I", Cond.methodLink RX7 74 yX7_chooses, Cond.instanceMethod yX7_chooses, Cond.selects RX7 yX7_chooses yX7_chooses, Cond.initialized RX7, Cond.code yX7_chooses cX7_chooses 2 none, Cond.methodLink RX7 67 yX7_byTimes, Cond.instanceMethod yX7_byTimes, Cond.selects RX7 yX7_byTimes yX7_byTimes, Cond.code yX7_byTimes cX7_byTimes 8 none, Cond.fieldLink RX7 25 "ParticleLinesModel" "times" "[I", Cond.fieldLink RX7 28 "ParticleLinesModel" "rests" "[J", Cond.constantLong RX7 65 (-1), Cond.methodLink RX7 52 yX7_sum, Cond.instanceMethod yX7_sum, Cond.selects RX7 yX7_sum yX7_sum, Cond.code yX7_sum cX7_sum 3 (some .int), Cond.methodLink RX7 70 yX7_byPoints, Cond.instanceMethod yX7_byPoints, Cond.selects RX7 yX7_byPoints yX7_byPoints, Cond.code yX7_byPoints cX7_byPoints 13 none, Cond.constantLong RX7 60 (100), Cond.methodLink RX7 62 yX7_takes]
def wsX7_resamples_r2 : List Cond := [Cond.instanceMethod yX7_takes, Cond.selects RX7 yX7_takes yX7_takes, Cond.code yX7_takes cX7_takes 1 (some .int), Cond.constant RX7 51 (65537), Cond.methodLink RX7 77 yX7_follows, Cond.instanceMethod yX7_follows, Cond.selects RX7 yX7_follows yX7_follows, Cond.code yX7_follows cX7_follows 7 (some .int), Cond.methodLink RX7 81 yX7_placeIn, Cond.instanceMethod yX7_placeIn, Cond.selects RX7 yX7_placeIn yX7_placeIn, Cond.code yX7_placeIn cX7_placeIn 3 (some .int)]
def wsX7_resamples : List Cond := .code yX7_resamples cX7_resamples 3 none :: ((wsX7_resamples_r1 ++ wsX7_resamples_r2) ++ wsX70)
def wsX7_begin : List Cond := .code yX7_begin cX7_begin 5 (some .int) :: ([.constant RX7 88 (-1000001), .fieldLink RX7 7 "ParticleLinesModel" "s" "[I", .methodLink RX7 84 yX7_in, .static yX7_in, .initialized RX7, .code yX7_in cX7_in 3 (some .boolean), .methodLink RX7 89 yX7_changes, .instanceMethod yX7_changes, .selects RX7 yX7_changes yX7_changes, .code yX7_changes cX7_changes 2 none, .fieldLink RX7 42 "ParticleLinesModel" "runs" "Z", .fieldLink RX7 46 "ParticleLinesModel" "pasts" "I", .fieldLink RX7 13 "ParticleLinesModel" "past" "[I", .methodLink RX7 38 yX7_lays, .instanceMethod yX7_lays, .selects RX7 yX7_lays yX7_lays, .code yX7_lays cX7_lays 6 none, .constant RX7 50 (-1000004)] ++ wsX70)
def wsX7_weigh_r1 : List Cond := [Cond.constant RX7 96 (1000000), Cond.constant RX7 88 (-1000001), Cond.fieldLink RX7 7 "ParticleLinesModel" "s" "[I", Cond.constant RX7 97 (-1000002), Cond.methodLink RX7 92 yX7_isParticle, Cond.instanceMethod yX7_isParticle, Cond.selects RX7 yX7_isParticle yX7_isParticle, Cond.initialized RX7, Cond.code yX7_isParticle cX7_isParticle 2 (some .boolean), Cond.methodLink RX7 84 yX7_in, Cond.static yX7_in, Cond.code yX7_in cX7_in 3 (some .boolean), Cond.methodLink RX7 52 yX7_sum, Cond.instanceMethod yX7_sum, Cond.selects RX7 yX7_sum yX7_sum, Cond.code yX7_sum cX7_sum 3 (some .int), Cond.methodLink RX7 89 yX7_changes, Cond.instanceMethod yX7_changes, Cond.selects RX7 yX7_changes yX7_changes, Cond.code yX7_changes cX7_changes 2 none, Cond.fieldLink RX7 42 "ParticleLinesModel" "runs" "Z", Cond.fieldLink RX7 46 "ParticleLinesModel" "pasts" "I", Cond.fieldLink RX7 13 "ParticleLinesModel" "past" "[I", Cond.methodLink RX7 98 yX7_divides]
def wsX7_weigh_r2 : List Cond := [Cond.instanceMethod yX7_divides, Cond.selects RX7 yX7_divides yX7_divides, Cond.code yX7_divides cX7_divides 4 (some .int), Cond.methodLink RX7 56 yX7_divisor, Cond.static yX7_divisor, Cond.code yX7_divisor cX7_divisor 5 (some .int)]
def wsX7_weigh : List Cond := .code yX7_weigh cX7_weigh 3 (some .int) :: ((wsX7_weigh_r1 ++ wsX7_weigh_r2) ++ wsX70)
def wsX7_move_r1 : List Cond := [Cond.constant RX7 88 (-1000001), Cond.fieldLink RX7 7 "ParticleLinesModel" "s" "[I", Cond.constant RX7 101 (-1000003), Cond.methodLink RX7 84 yX7_in, Cond.static yX7_in, Cond.initialized RX7, Cond.code yX7_in cX7_in 3 (some .boolean), Cond.methodLink RX7 89 yX7_changes, Cond.instanceMethod yX7_changes, Cond.selects RX7 yX7_changes yX7_changes, Cond.code yX7_changes cX7_changes 2 none, Cond.fieldLink RX7 42 "ParticleLinesModel" "runs" "Z", Cond.fieldLink RX7 46 "ParticleLinesModel" "pasts" "I", Cond.fieldLink RX7 13 "ParticleLinesModel" "past" "[I", Cond.methodLink RX7 77 yX7_follows, Cond.instanceMethod yX7_follows, Cond.selects RX7 yX7_follows yX7_follows, Cond.code yX7_follows cX7_follows 7 (some .int), Cond.methodLink RX7 81 yX7_placeIn, Cond.instanceMethod yX7_placeIn, Cond.selects RX7 yX7_placeIn yX7_placeIn, Cond.code yX7_placeIn cX7_placeIn 3 (some .int), Cond.methodLink RX7 62 yX7_takes, Cond.instanceMethod yX7_takes]
def wsX7_move_r2 : List Cond := [Cond.selects RX7 yX7_takes yX7_takes, Cond.code yX7_takes cX7_takes 1 (some .int), Cond.constant RX7 51 (65537)]
def wsX7_move : List Cond := .code yX7_move cX7_move 6 (some .int) :: ((wsX7_move_r1 ++ wsX7_move_r2) ++ wsX70)
def wsX7_looks : List Cond := .code yX7_looks cX7_looks 6 (some .int) :: ([.fieldLink RX7 7 "ParticleLinesModel" "s" "[I", .fieldLink RX7 32 "ParticleLinesModel" "before" "[I", .methodLink RX7 102 yX7_latest, .instanceMethod yX7_latest, .selects RX7 yX7_latest yX7_latest, .initialized RX7, .code yX7_latest cX7_latest 1 (some .int), .methodLink RX7 81 yX7_placeIn, .instanceMethod yX7_placeIn, .selects RX7 yX7_placeIn yX7_placeIn, .code yX7_placeIn cX7_placeIn 3 (some .int), .methodLink RX7 98 yX7_divides, .instanceMethod yX7_divides, .selects RX7 yX7_divides yX7_divides, .code yX7_divides cX7_divides 4 (some .int), .methodLink RX7 56 yX7_divisor, .static yX7_divisor, .code yX7_divisor cX7_divisor 5 (some .int)] ++ wsX70)
def wsX7_observe_r1 : List Cond := [Cond.constant RX7 88 (-1000001), Cond.constant RX7 97 (-1000002), Cond.constant RX7 96 (1000000), Cond.fieldLink RX7 7 "ParticleLinesModel" "s" "[I", Cond.constant RX7 101 (-1000003), Cond.fieldLink RX7 32 "ParticleLinesModel" "before" "[I", Cond.methodLink RX7 84 yX7_in, Cond.static yX7_in, Cond.initialized RX7, Cond.code yX7_in cX7_in 3 (some .boolean), Cond.methodLink RX7 105 yX7_looks, Cond.instanceMethod yX7_looks, Cond.selects RX7 yX7_looks yX7_looks, Cond.code yX7_looks cX7_looks 6 (some .int), Cond.methodLink RX7 102 yX7_latest, Cond.instanceMethod yX7_latest, Cond.selects RX7 yX7_latest yX7_latest, Cond.code yX7_latest cX7_latest 1 (some .int), Cond.methodLink RX7 81 yX7_placeIn, Cond.instanceMethod yX7_placeIn, Cond.selects RX7 yX7_placeIn yX7_placeIn, Cond.code yX7_placeIn cX7_placeIn 3 (some .int), Cond.methodLink RX7 98 yX7_divides, Cond.instanceMethod yX7_divides]
def wsX7_observe_r2 : List Cond := [Cond.selects RX7 yX7_divides yX7_divides, Cond.code yX7_divides cX7_divides 4 (some .int), Cond.methodLink RX7 56 yX7_divisor, Cond.static yX7_divisor, Cond.code yX7_divisor cX7_divisor 5 (some .int), Cond.methodLink RX7 108 yX7_effective, Cond.instanceMethod yX7_effective, Cond.selects RX7 yX7_effective yX7_effective, Cond.code yX7_effective cX7_effective 6 (some .int), Cond.methodLink RX7 52 yX7_sum, Cond.instanceMethod yX7_sum, Cond.selects RX7 yX7_sum yX7_sum, Cond.code yX7_sum cX7_sum 3 (some .int), Cond.methodLink RX7 89 yX7_changes, Cond.instanceMethod yX7_changes, Cond.selects RX7 yX7_changes yX7_changes, Cond.code yX7_changes cX7_changes 2 none, Cond.fieldLink RX7 42 "ParticleLinesModel" "runs" "Z", Cond.fieldLink RX7 46 "ParticleLinesModel" "pasts" "I", Cond.fieldLink RX7 13 "ParticleLinesModel" "past" "[I", Cond.methodLink RX7 111 yX7_resamples, Cond.instanceMethod yX7_resamples, Cond.selects RX7 yX7_resamples yX7_resamples, Cond.code yX7_resamples cX7_resamples 3 none]
def wsX7_observe_r3 : List Cond := [Cond.fieldLink RX7 22 "ParticleLinesModel" "chosen" "[I", Cond.methodLink RX7 74 yX7_chooses, Cond.instanceMethod yX7_chooses, Cond.selects RX7 yX7_chooses yX7_chooses, Cond.code yX7_chooses cX7_chooses 2 none, Cond.methodLink RX7 67 yX7_byTimes, Cond.instanceMethod yX7_byTimes, Cond.selects RX7 yX7_byTimes yX7_byTimes, Cond.code yX7_byTimes cX7_byTimes 8 none, Cond.fieldLink RX7 25 "ParticleLinesModel" "times" "[I", Cond.fieldLink RX7 28 "ParticleLinesModel" "rests" "[J", Cond.constantLong RX7 65 (-1), Cond.methodLink RX7 70 yX7_byPoints, Cond.instanceMethod yX7_byPoints, Cond.selects RX7 yX7_byPoints yX7_byPoints, Cond.code yX7_byPoints cX7_byPoints 13 none, Cond.constantLong RX7 60 (100), Cond.methodLink RX7 62 yX7_takes, Cond.instanceMethod yX7_takes, Cond.selects RX7 yX7_takes yX7_takes, Cond.code yX7_takes cX7_takes 1 (some .int), Cond.constant RX7 51 (65537), Cond.methodLink RX7 77 yX7_follows, Cond.instanceMethod yX7_follows]
def wsX7_observe_r4 : List Cond := [Cond.selects RX7 yX7_follows yX7_follows, Cond.code yX7_follows cX7_follows 7 (some .int)]
def wsX7_observe : List Cond := .code yX7_observe cX7_observe 6 (some .int) :: ((wsX7_observe_r1 ++ (wsX7_observe_r2 ++ (wsX7_observe_r3 ++ wsX7_observe_r4))) ++ wsX70)
def wsX7_unlike : List Cond := .code yX7_unlike cX7_unlike 7 (some .int) :: ([.fieldLink RX7 7 "ParticleLinesModel" "s" "[I"] ++ wsX70)
def wsX7_resample_r1 : List Cond := [Cond.fieldLink RX7 7 "ParticleLinesModel" "s" "[I", Cond.constant RX7 101 (-1000003), Cond.methodLink RX7 89 yX7_changes, Cond.instanceMethod yX7_changes, Cond.selects RX7 yX7_changes yX7_changes, Cond.initialized RX7, Cond.code yX7_changes cX7_changes 2 none, Cond.fieldLink RX7 42 "ParticleLinesModel" "runs" "Z", Cond.fieldLink RX7 46 "ParticleLinesModel" "pasts" "I", Cond.fieldLink RX7 13 "ParticleLinesModel" "past" "[I", Cond.methodLink RX7 111 yX7_resamples, Cond.instanceMethod yX7_resamples, Cond.selects RX7 yX7_resamples yX7_resamples, Cond.code yX7_resamples cX7_resamples 3 none, Cond.fieldLink RX7 22 "ParticleLinesModel" "chosen" "[I", Cond.methodLink RX7 74 yX7_chooses, Cond.instanceMethod yX7_chooses, Cond.selects RX7 yX7_chooses yX7_chooses, Cond.code yX7_chooses cX7_chooses 2 none, Cond.methodLink RX7 67 yX7_byTimes, Cond.instanceMethod yX7_byTimes, Cond.selects RX7 yX7_byTimes yX7_byTimes, Cond.code yX7_byTimes cX7_byTimes 8 none, Cond.fieldLink RX7 25 "ParticleLinesModel" "times" "[I"]
def wsX7_resample_r2 : List Cond := [Cond.fieldLink RX7 28 "ParticleLinesModel" "rests" "[J", Cond.constantLong RX7 65 (-1), Cond.methodLink RX7 52 yX7_sum, Cond.instanceMethod yX7_sum, Cond.selects RX7 yX7_sum yX7_sum, Cond.code yX7_sum cX7_sum 3 (some .int), Cond.methodLink RX7 70 yX7_byPoints, Cond.instanceMethod yX7_byPoints, Cond.selects RX7 yX7_byPoints yX7_byPoints, Cond.code yX7_byPoints cX7_byPoints 13 none, Cond.constantLong RX7 60 (100), Cond.methodLink RX7 62 yX7_takes, Cond.instanceMethod yX7_takes, Cond.selects RX7 yX7_takes yX7_takes, Cond.code yX7_takes cX7_takes 1 (some .int), Cond.constant RX7 51 (65537), Cond.methodLink RX7 77 yX7_follows, Cond.instanceMethod yX7_follows, Cond.selects RX7 yX7_follows yX7_follows, Cond.code yX7_follows cX7_follows 7 (some .int), Cond.methodLink RX7 81 yX7_placeIn, Cond.instanceMethod yX7_placeIn, Cond.selects RX7 yX7_placeIn yX7_placeIn, Cond.code yX7_placeIn cX7_placeIn 3 (some .int)]
def wsX7_resample_r3 : List Cond := [Cond.methodLink RX7 102 yX7_latest, Cond.instanceMethod yX7_latest, Cond.selects RX7 yX7_latest yX7_latest, Cond.code yX7_latest cX7_latest 1 (some .int), Cond.methodLink RX7 114 yX7_unlike, Cond.instanceMethod yX7_unlike, Cond.selects RX7 yX7_unlike yX7_unlike, Cond.code yX7_unlike cX7_unlike 7 (some .int)]
def wsX7_resample : List Cond := .code yX7_resample cX7_resample 1 (some .int) :: ((wsX7_resample_r1 ++ (wsX7_resample_r2 ++ wsX7_resample_r3)) ++ wsX70)
def wsX7_set : List Cond := .code yX7_set cX7_set 4 (some .int) :: ([.constant RX7 88 (-1000001), .fieldLink RX7 7 "ParticleLinesModel" "s" "[I", .methodLink RX7 84 yX7_in, .static yX7_in, .initialized RX7, .code yX7_in cX7_in 3 (some .boolean), .methodLink RX7 89 yX7_changes, .instanceMethod yX7_changes, .selects RX7 yX7_changes yX7_changes, .code yX7_changes cX7_changes 2 none, .fieldLink RX7 42 "ParticleLinesModel" "runs" "Z", .fieldLink RX7 46 "ParticleLinesModel" "pasts" "I", .fieldLink RX7 13 "ParticleLinesModel" "past" "[I"] ++ wsX70)
def wsX7_part : List Cond := .code yX7_part cX7_part 11 (some .int) :: ([])
def wsX7_likePlaces : List Cond := .code yX7_likePlaces cX7_likePlaces 4 (some .int) :: ([.fieldLink RX7 7 "ParticleLinesModel" "s" "[I", .methodLink RX7 102 yX7_latest, .instanceMethod yX7_latest, .selects RX7 yX7_latest yX7_latest, .initialized RX7, .code yX7_latest cX7_latest 1 (some .int), .methodLink RX7 81 yX7_placeIn, .instanceMethod yX7_placeIn, .selects RX7 yX7_placeIn yX7_placeIn, .code yX7_placeIn cX7_placeIn 3 (some .int)] ++ wsX70)
def wsX7_rank : List Cond := .code yX7_rank cX7_rank 5 (some .int) :: ([.fieldLink RX7 7 "ParticleLinesModel" "s" "[I"] ++ wsX70)
def wsX7_particleOf_r1 : List Cond := [Cond.constant RX7 88 (-1000001), Cond.fieldLink RX7 7 "ParticleLinesModel" "s" "[I", Cond.methodLink RX7 92 yX7_isParticle, Cond.instanceMethod yX7_isParticle, Cond.selects RX7 yX7_isParticle yX7_isParticle, Cond.initialized RX7, Cond.code yX7_isParticle cX7_isParticle 2 (some .boolean), Cond.methodLink RX7 102 yX7_latest, Cond.instanceMethod yX7_latest, Cond.selects RX7 yX7_latest yX7_latest, Cond.code yX7_latest cX7_latest 1 (some .int), Cond.methodLink RX7 81 yX7_placeIn, Cond.instanceMethod yX7_placeIn, Cond.selects RX7 yX7_placeIn yX7_placeIn, Cond.code yX7_placeIn cX7_placeIn 3 (some .int), Cond.methodLink RX7 117 yX7_likePlaces, Cond.instanceMethod yX7_likePlaces, Cond.selects RX7 yX7_likePlaces yX7_likePlaces, Cond.code yX7_likePlaces cX7_likePlaces 4 (some .int), Cond.methodLink RX7 52 yX7_sum, Cond.instanceMethod yX7_sum, Cond.selects RX7 yX7_sum yX7_sum, Cond.code yX7_sum cX7_sum 3 (some .int), Cond.methodLink RX7 121 yX7_part]
def wsX7_particleOf_r2 : List Cond := [Cond.static yX7_part, Cond.code yX7_part cX7_part 11 (some .int), Cond.methodLink RX7 125 yX7_rank, Cond.instanceMethod yX7_rank, Cond.selects RX7 yX7_rank yX7_rank, Cond.code yX7_rank cX7_rank 5 (some .int)]
def wsX7_particleOf : List Cond := .code yX7_particleOf cX7_particleOf 3 (some .int) :: ((wsX7_particleOf_r1 ++ wsX7_particleOf_r2) ++ wsX70)
def wsX7_up : List Cond := .code yX7_up cX7_up 5 (some .int) :: ([.fieldLink RX7 7 "ParticleLinesModel" "s" "[I", .methodLink RX7 102 yX7_latest, .instanceMethod yX7_latest, .selects RX7 yX7_latest yX7_latest, .initialized RX7, .code yX7_latest cX7_latest 1 (some .int)] ++ wsX70)
def wsX7_alive : List Cond := .code yX7_alive cX7_alive 5 (some .int) :: ([.fieldLink RX7 7 "ParticleLinesModel" "s" "[I", .methodLink RX7 128 yX7_up, .instanceMethod yX7_up, .selects RX7 yX7_up yX7_up, .initialized RX7, .code yX7_up cX7_up 5 (some .int), .methodLink RX7 102 yX7_latest, .instanceMethod yX7_latest, .selects RX7 yX7_latest yX7_latest, .code yX7_latest cX7_latest 1 (some .int)] ++ wsX70)
def wsX7_generationOf_r1 : List Cond := [Cond.constant RX7 88 (-1000001), Cond.fieldLink RX7 7 "ParticleLinesModel" "s" "[I", Cond.constant RX7 50 (-1000004), Cond.methodLink RX7 131 yX7_isGeneration, Cond.instanceMethod yX7_isGeneration, Cond.selects RX7 yX7_isGeneration yX7_isGeneration, Cond.initialized RX7, Cond.code yX7_isGeneration cX7_isGeneration 2 (some .boolean), Cond.methodLink RX7 84 yX7_in, Cond.static yX7_in, Cond.code yX7_in cX7_in 3 (some .boolean), Cond.methodLink RX7 134 yX7_alive, Cond.instanceMethod yX7_alive, Cond.selects RX7 yX7_alive yX7_alive, Cond.code yX7_alive cX7_alive 5 (some .int), Cond.methodLink RX7 128 yX7_up, Cond.instanceMethod yX7_up, Cond.selects RX7 yX7_up yX7_up, Cond.code yX7_up cX7_up 5 (some .int), Cond.methodLink RX7 102 yX7_latest, Cond.instanceMethod yX7_latest, Cond.selects RX7 yX7_latest yX7_latest, Cond.code yX7_latest cX7_latest 1 (some .int), Cond.methodLink RX7 114 yX7_unlike]
def wsX7_generationOf_r2 : List Cond := [Cond.instanceMethod yX7_unlike, Cond.selects RX7 yX7_unlike yX7_unlike, Cond.code yX7_unlike cX7_unlike 7 (some .int)]
def wsX7_generationOf : List Cond := .code yX7_generationOf cX7_generationOf 4 (some .int) :: ((wsX7_generationOf_r1 ++ wsX7_generationOf_r2) ++ wsX70)
def wsX7_ancestor_r1 : List Cond := [Cond.constant RX7 88 (-1000001), Cond.methodLink RX7 92 yX7_isParticle, Cond.instanceMethod yX7_isParticle, Cond.selects RX7 yX7_isParticle yX7_isParticle, Cond.initialized RX7, Cond.code yX7_isParticle cX7_isParticle 2 (some .boolean), Cond.fieldLink RX7 7 "ParticleLinesModel" "s" "[I", Cond.methodLink RX7 131 yX7_isGeneration, Cond.instanceMethod yX7_isGeneration, Cond.selects RX7 yX7_isGeneration yX7_isGeneration, Cond.code yX7_isGeneration cX7_isGeneration 2 (some .boolean), Cond.methodLink RX7 84 yX7_in, Cond.static yX7_in, Cond.code yX7_in cX7_in 3 (some .boolean), Cond.methodLink RX7 128 yX7_up, Cond.instanceMethod yX7_up, Cond.selects RX7 yX7_up yX7_up, Cond.code yX7_up cX7_up 5 (some .int), Cond.methodLink RX7 102 yX7_latest, Cond.instanceMethod yX7_latest, Cond.selects RX7 yX7_latest yX7_latest, Cond.code yX7_latest cX7_latest 1 (some .int), Cond.methodLink RX7 81 yX7_placeIn, Cond.instanceMethod yX7_placeIn]
def wsX7_ancestor_r2 : List Cond := [Cond.selects RX7 yX7_placeIn yX7_placeIn, Cond.code yX7_placeIn cX7_placeIn 3 (some .int)]
def wsX7_ancestor : List Cond := .code yX7_ancestor cX7_ancestor 5 (some .int) :: ((wsX7_ancestor_r1 ++ wsX7_ancestor_r2) ++ wsX70)
def wsX7_meeting : List Cond := .code yX7_meeting cX7_meeting 7 (some .int) :: ([.fieldLink RX7 7 "ParticleLinesModel" "s" "[I", .constant RX7 50 (-1000004), .methodLink RX7 102 yX7_latest, .instanceMethod yX7_latest, .selects RX7 yX7_latest yX7_latest, .initialized RX7, .code yX7_latest cX7_latest 1 (some .int), .methodLink RX7 128 yX7_up, .instanceMethod yX7_up, .selects RX7 yX7_up yX7_up, .code yX7_up cX7_up 5 (some .int)] ++ wsX70)
def wsX7_common : List Cond := .code yX7_common cX7_common 3 (some .int) :: ([.constant RX7 88 (-1000001), .methodLink RX7 92 yX7_isParticle, .instanceMethod yX7_isParticle, .selects RX7 yX7_isParticle yX7_isParticle, .initialized RX7, .code yX7_isParticle cX7_isParticle 2 (some .boolean), .fieldLink RX7 7 "ParticleLinesModel" "s" "[I", .methodLink RX7 137 yX7_meeting, .instanceMethod yX7_meeting, .selects RX7 yX7_meeting yX7_meeting, .code yX7_meeting cX7_meeting 7 (some .int), .constant RX7 50 (-1000004), .methodLink RX7 102 yX7_latest, .instanceMethod yX7_latest, .selects RX7 yX7_latest yX7_latest, .code yX7_latest cX7_latest 1 (some .int), .methodLink RX7 128 yX7_up, .instanceMethod yX7_up, .selects RX7 yX7_up yX7_up, .code yX7_up cX7_up 5 (some .int)] ++ wsX70)
def wsX7_root : List Cond := .code yX7_root cX7_root 1 (some .int) :: ([.methodLink RX7 137 yX7_meeting, .instanceMethod yX7_meeting, .selects RX7 yX7_meeting yX7_meeting, .initialized RX7, .code yX7_meeting cX7_meeting 7 (some .int), .fieldLink RX7 7 "ParticleLinesModel" "s" "[I", .constant RX7 50 (-1000004), .methodLink RX7 102 yX7_latest, .instanceMethod yX7_latest, .selects RX7 yX7_latest yX7_latest, .code yX7_latest cX7_latest 1 (some .int), .methodLink RX7 128 yX7_up, .instanceMethod yX7_up, .selects RX7 yX7_up yX7_up, .code yX7_up cX7_up 5 (some .int)] ++ wsX70)
def wsX7_mean_r1 : List Cond := [Cond.constant RX7 88 (-1000001), Cond.fieldLink RX7 7 "ParticleLinesModel" "s" "[I", Cond.methodLink RX7 131 yX7_isGeneration, Cond.instanceMethod yX7_isGeneration, Cond.selects RX7 yX7_isGeneration yX7_isGeneration, Cond.initialized RX7, Cond.code yX7_isGeneration cX7_isGeneration 2 (some .boolean), Cond.methodLink RX7 84 yX7_in, Cond.static yX7_in, Cond.code yX7_in cX7_in 3 (some .boolean), Cond.methodLink RX7 128 yX7_up, Cond.instanceMethod yX7_up, Cond.selects RX7 yX7_up yX7_up, Cond.code yX7_up cX7_up 5 (some .int), Cond.methodLink RX7 102 yX7_latest, Cond.instanceMethod yX7_latest, Cond.selects RX7 yX7_latest yX7_latest, Cond.code yX7_latest cX7_latest 1 (some .int), Cond.methodLink RX7 81 yX7_placeIn, Cond.instanceMethod yX7_placeIn, Cond.selects RX7 yX7_placeIn yX7_placeIn, Cond.code yX7_placeIn cX7_placeIn 3 (some .int), Cond.methodLink RX7 52 yX7_sum, Cond.instanceMethod yX7_sum]
def wsX7_mean_r2 : List Cond := [Cond.selects RX7 yX7_sum yX7_sum, Cond.code yX7_sum cX7_sum 3 (some .int), Cond.methodLink RX7 121 yX7_part, Cond.static yX7_part, Cond.code yX7_part cX7_part 11 (some .int)]
def wsX7_mean : List Cond := .code yX7_mean cX7_mean 6 (some .int) :: ((wsX7_mean_r1 ++ wsX7_mean_r2) ++ wsX70)
def wsX7_share_r1 : List Cond := [Cond.constant RX7 88 (-1000001), Cond.fieldLink RX7 7 "ParticleLinesModel" "s" "[I", Cond.methodLink RX7 131 yX7_isGeneration, Cond.instanceMethod yX7_isGeneration, Cond.selects RX7 yX7_isGeneration yX7_isGeneration, Cond.initialized RX7, Cond.code yX7_isGeneration cX7_isGeneration 2 (some .boolean), Cond.methodLink RX7 84 yX7_in, Cond.static yX7_in, Cond.code yX7_in cX7_in 3 (some .boolean), Cond.methodLink RX7 128 yX7_up, Cond.instanceMethod yX7_up, Cond.selects RX7 yX7_up yX7_up, Cond.code yX7_up cX7_up 5 (some .int), Cond.methodLink RX7 102 yX7_latest, Cond.instanceMethod yX7_latest, Cond.selects RX7 yX7_latest yX7_latest, Cond.code yX7_latest cX7_latest 1 (some .int), Cond.methodLink RX7 81 yX7_placeIn, Cond.instanceMethod yX7_placeIn, Cond.selects RX7 yX7_placeIn yX7_placeIn, Cond.code yX7_placeIn cX7_placeIn 3 (some .int), Cond.methodLink RX7 52 yX7_sum, Cond.instanceMethod yX7_sum]
def wsX7_share_r2 : List Cond := [Cond.selects RX7 yX7_sum yX7_sum, Cond.code yX7_sum cX7_sum 3 (some .int), Cond.methodLink RX7 121 yX7_part, Cond.static yX7_part, Cond.code yX7_part cX7_part 11 (some .int)]
def wsX7_share : List Cond := .code yX7_share cX7_share 8 (some .int) :: ((wsX7_share_r1 ++ wsX7_share_r2) ++ wsX70)
def wsX7_would_r1 : List Cond := [Cond.constant RX7 88 (-1000001), Cond.fieldLink RX7 7 "ParticleLinesModel" "s" "[I", Cond.fieldLink RX7 22 "ParticleLinesModel" "chosen" "[I", Cond.methodLink RX7 84 yX7_in, Cond.static yX7_in, Cond.initialized RX7, Cond.code yX7_in cX7_in 3 (some .boolean), Cond.methodLink RX7 92 yX7_isParticle, Cond.instanceMethod yX7_isParticle, Cond.selects RX7 yX7_isParticle yX7_isParticle, Cond.code yX7_isParticle cX7_isParticle 2 (some .boolean), Cond.methodLink RX7 74 yX7_chooses, Cond.instanceMethod yX7_chooses, Cond.selects RX7 yX7_chooses yX7_chooses, Cond.code yX7_chooses cX7_chooses 2 none, Cond.methodLink RX7 67 yX7_byTimes, Cond.instanceMethod yX7_byTimes, Cond.selects RX7 yX7_byTimes yX7_byTimes, Cond.code yX7_byTimes cX7_byTimes 8 none, Cond.fieldLink RX7 25 "ParticleLinesModel" "times" "[I", Cond.fieldLink RX7 28 "ParticleLinesModel" "rests" "[J", Cond.constantLong RX7 65 (-1), Cond.methodLink RX7 52 yX7_sum, Cond.instanceMethod yX7_sum]
def wsX7_would_r2 : List Cond := [Cond.selects RX7 yX7_sum yX7_sum, Cond.code yX7_sum cX7_sum 3 (some .int), Cond.methodLink RX7 70 yX7_byPoints, Cond.instanceMethod yX7_byPoints, Cond.selects RX7 yX7_byPoints yX7_byPoints, Cond.code yX7_byPoints cX7_byPoints 13 none, Cond.constantLong RX7 60 (100), Cond.methodLink RX7 62 yX7_takes, Cond.instanceMethod yX7_takes, Cond.selects RX7 yX7_takes yX7_takes, Cond.code yX7_takes cX7_takes 1 (some .int), Cond.constant RX7 51 (65537)]
def wsX7_would : List Cond := .code yX7_would cX7_would 4 (some .int) :: ((wsX7_would_r1 ++ wsX7_would_r2) ++ wsX70)
def wsX7_zeros : List Cond := .code yX7_zeros cX7_zeros 3 (some .int) :: ([.fieldLink RX7 7 "ParticleLinesModel" "s" "[I"] ++ wsX70)
def wsX7_count_r1 : List Cond := [Cond.fieldLink RX7 7 "ParticleLinesModel" "s" "[I", Cond.fieldLink RX7 46 "ParticleLinesModel" "pasts" "I", Cond.fieldLink RX7 144 "ParticleLinesModel" "typed" "I", Cond.constant RX7 88 (-1000001), Cond.methodLink RX7 52 yX7_sum, Cond.instanceMethod yX7_sum, Cond.selects RX7 yX7_sum yX7_sum, Cond.initialized RX7, Cond.code yX7_sum cX7_sum 3 (some .int), Cond.methodLink RX7 108 yX7_effective, Cond.instanceMethod yX7_effective, Cond.selects RX7 yX7_effective yX7_effective, Cond.code yX7_effective cX7_effective 6 (some .int), Cond.methodLink RX7 141 yX7_zeros, Cond.instanceMethod yX7_zeros, Cond.selects RX7 yX7_zeros yX7_zeros, Cond.code yX7_zeros cX7_zeros 3 (some .int), Cond.methodLink RX7 102 yX7_latest, Cond.instanceMethod yX7_latest, Cond.selects RX7 yX7_latest yX7_latest, Cond.code yX7_latest cX7_latest 1 (some .int), Cond.methodLink RX7 114 yX7_unlike, Cond.instanceMethod yX7_unlike, Cond.selects RX7 yX7_unlike yX7_unlike]
def wsX7_count_r2 : List Cond := [Cond.code yX7_unlike cX7_unlike 7 (some .int), Cond.methodLink RX7 84 yX7_in, Cond.static yX7_in, Cond.code yX7_in cX7_in 3 (some .boolean)]
def wsX7_count : List Cond := .code yX7_count cX7_count 2 (some .int) :: ((wsX7_count_r1 ++ wsX7_count_r2) ++ wsX70)
def wsX7_undo : List Cond := .code yX7_undo cX7_undo 2 (some .int) :: ([.fieldLink RX7 46 "ParticleLinesModel" "pasts" "I", .constant RX7 97 (-1000002), .fieldLink RX7 7 "ParticleLinesModel" "s" "[I", .fieldLink RX7 13 "ParticleLinesModel" "past" "[I"] ++ wsX70)
def wsX7_type : List Cond := .code yX7_type cX7_type 2 (some .int) :: ([.constant RX7 88 (-1000001), .fieldLink RX7 144 "ParticleLinesModel" "typed" "I", .constant RX7 101 (-1000003), .fieldLink RX7 19 "ParticleLinesModel" "text" "[I", .methodLink RX7 84 yX7_in, .static yX7_in, .initialized RX7, .code yX7_in cX7_in 3 (some .boolean)] ++ wsX70)
def wsX7_clearText : List Cond := .code yX7_clearText cX7_clearText 2 (some .int) :: ([.fieldLink RX7 144 "ParticleLinesModel" "typed" "I"] ++ wsX70)
def wsX7_isAt : List Cond := .code yX7_isAt cX7_isAt 3 (some .boolean) :: ([.fieldLink RX7 147 "ParticleLinesModel" "spot" "I", .fieldLink RX7 144 "ParticleLinesModel" "typed" "I", .fieldLink RX7 19 "ParticleLinesModel" "text" "[I", .methodLink RX7 84 yX7_in, .static yX7_in, .initialized RX7, .code yX7_in cX7_in 3 (some .boolean)] ++ wsX70)
def wsX7_passes : List Cond := .code yX7_passes cX7_passes 3 (some .boolean) :: ([.fieldLink RX7 147 "ParticleLinesModel" "spot" "I", .methodLink RX7 150 yX7_isAt, .instanceMethod yX7_isAt, .selects RX7 yX7_isAt yX7_isAt, .initialized RX7, .code yX7_isAt cX7_isAt 3 (some .boolean), .fieldLink RX7 144 "ParticleLinesModel" "typed" "I", .fieldLink RX7 19 "ParticleLinesModel" "text" "[I", .methodLink RX7 84 yX7_in, .static yX7_in, .code yX7_in cX7_in 3 (some .boolean)] ++ wsX70)
def wsX7_number : List Cond := .code yX7_number cX7_number 3 (some .boolean) :: ([.fieldLink RX7 147 "ParticleLinesModel" "spot" "I", .fieldLink RX7 35 "ParticleLinesModel" "told" "[I", .fieldLink RX7 19 "ParticleLinesModel" "text" "[I", .methodLink RX7 150 yX7_isAt, .instanceMethod yX7_isAt, .selects RX7 yX7_isAt yX7_isAt, .initialized RX7, .code yX7_isAt cX7_isAt 3 (some .boolean), .fieldLink RX7 144 "ParticleLinesModel" "typed" "I", .methodLink RX7 84 yX7_in, .static yX7_in, .code yX7_in cX7_in 3 (some .boolean)] ++ wsX70)
def wsX7_reads : List Cond := .code yX7_reads cX7_reads 3 (some .boolean) :: ([.fieldLink RX7 19 "ParticleLinesModel" "text" "[I", .fieldLink RX7 147 "ParticleLinesModel" "spot" "I", .fieldLink RX7 154 "ParticleLinesModel" "kind" "I", .fieldLink RX7 35 "ParticleLinesModel" "told" "[I", .methodLink RX7 150 yX7_isAt, .instanceMethod yX7_isAt, .selects RX7 yX7_isAt yX7_isAt, .initialized RX7, .code yX7_isAt cX7_isAt 3 (some .boolean), .fieldLink RX7 144 "ParticleLinesModel" "typed" "I", .methodLink RX7 84 yX7_in, .static yX7_in, .code yX7_in cX7_in 3 (some .boolean), .methodLink RX7 157 yX7_passes, .instanceMethod yX7_passes, .selects RX7 yX7_passes yX7_passes, .code yX7_passes cX7_passes 3 (some .boolean), .methodLink RX7 160 yX7_number, .instanceMethod yX7_number, .selects RX7 yX7_number yX7_number, .code yX7_number cX7_number 3 (some .boolean)] ++ wsX70)
def wsX7_calls_r1 : List Cond := [Cond.fieldLink RX7 154 "ParticleLinesModel" "kind" "I", Cond.fieldLink RX7 35 "ParticleLinesModel" "told" "[I", Cond.methodLink RX7 163 yX7_move, Cond.instanceMethod yX7_move, Cond.selects RX7 yX7_move yX7_move, Cond.initialized RX7, Cond.code yX7_move cX7_move 6 (some .int), Cond.constant RX7 88 (-1000001), Cond.fieldLink RX7 7 "ParticleLinesModel" "s" "[I", Cond.constant RX7 101 (-1000003), Cond.methodLink RX7 84 yX7_in, Cond.static yX7_in, Cond.code yX7_in cX7_in 3 (some .boolean), Cond.methodLink RX7 89 yX7_changes, Cond.instanceMethod yX7_changes, Cond.selects RX7 yX7_changes yX7_changes, Cond.code yX7_changes cX7_changes 2 none, Cond.fieldLink RX7 42 "ParticleLinesModel" "runs" "Z", Cond.fieldLink RX7 46 "ParticleLinesModel" "pasts" "I", Cond.fieldLink RX7 13 "ParticleLinesModel" "past" "[I", Cond.methodLink RX7 77 yX7_follows, Cond.instanceMethod yX7_follows, Cond.selects RX7 yX7_follows yX7_follows, Cond.code yX7_follows cX7_follows 7 (some .int)]
def wsX7_calls_r2 : List Cond := [Cond.methodLink RX7 81 yX7_placeIn, Cond.instanceMethod yX7_placeIn, Cond.selects RX7 yX7_placeIn yX7_placeIn, Cond.code yX7_placeIn cX7_placeIn 3 (some .int), Cond.methodLink RX7 62 yX7_takes, Cond.instanceMethod yX7_takes, Cond.selects RX7 yX7_takes yX7_takes, Cond.code yX7_takes cX7_takes 1 (some .int), Cond.constant RX7 51 (65537), Cond.methodLink RX7 166 yX7_observe, Cond.instanceMethod yX7_observe, Cond.selects RX7 yX7_observe yX7_observe, Cond.code yX7_observe cX7_observe 6 (some .int), Cond.constant RX7 97 (-1000002), Cond.constant RX7 96 (1000000), Cond.fieldLink RX7 32 "ParticleLinesModel" "before" "[I", Cond.methodLink RX7 105 yX7_looks, Cond.instanceMethod yX7_looks, Cond.selects RX7 yX7_looks yX7_looks, Cond.code yX7_looks cX7_looks 6 (some .int), Cond.methodLink RX7 102 yX7_latest, Cond.instanceMethod yX7_latest, Cond.selects RX7 yX7_latest yX7_latest, Cond.code yX7_latest cX7_latest 1 (some .int)]
def wsX7_calls_r3 : List Cond := [Cond.methodLink RX7 98 yX7_divides, Cond.instanceMethod yX7_divides, Cond.selects RX7 yX7_divides yX7_divides, Cond.code yX7_divides cX7_divides 4 (some .int), Cond.methodLink RX7 56 yX7_divisor, Cond.static yX7_divisor, Cond.code yX7_divisor cX7_divisor 5 (some .int), Cond.methodLink RX7 108 yX7_effective, Cond.instanceMethod yX7_effective, Cond.selects RX7 yX7_effective yX7_effective, Cond.code yX7_effective cX7_effective 6 (some .int), Cond.methodLink RX7 52 yX7_sum, Cond.instanceMethod yX7_sum, Cond.selects RX7 yX7_sum yX7_sum, Cond.code yX7_sum cX7_sum 3 (some .int), Cond.methodLink RX7 111 yX7_resamples, Cond.instanceMethod yX7_resamples, Cond.selects RX7 yX7_resamples yX7_resamples, Cond.code yX7_resamples cX7_resamples 3 none, Cond.fieldLink RX7 22 "ParticleLinesModel" "chosen" "[I", Cond.methodLink RX7 74 yX7_chooses, Cond.instanceMethod yX7_chooses, Cond.selects RX7 yX7_chooses yX7_chooses, Cond.code yX7_chooses cX7_chooses 2 none]
def wsX7_calls_r4 : List Cond := [Cond.methodLink RX7 67 yX7_byTimes, Cond.instanceMethod yX7_byTimes, Cond.selects RX7 yX7_byTimes yX7_byTimes, Cond.code yX7_byTimes cX7_byTimes 8 none, Cond.fieldLink RX7 25 "ParticleLinesModel" "times" "[I", Cond.fieldLink RX7 28 "ParticleLinesModel" "rests" "[J", Cond.constantLong RX7 65 (-1), Cond.methodLink RX7 70 yX7_byPoints, Cond.instanceMethod yX7_byPoints, Cond.selects RX7 yX7_byPoints yX7_byPoints, Cond.code yX7_byPoints cX7_byPoints 13 none, Cond.constantLong RX7 60 (100), Cond.methodLink RX7 169 yX7_resample, Cond.instanceMethod yX7_resample, Cond.selects RX7 yX7_resample yX7_resample, Cond.code yX7_resample cX7_resample 1 (some .int), Cond.methodLink RX7 114 yX7_unlike, Cond.instanceMethod yX7_unlike, Cond.selects RX7 yX7_unlike yX7_unlike, Cond.code yX7_unlike cX7_unlike 7 (some .int)]
def wsX7_calls : List Cond := .code yX7_calls cX7_calls 1 (some .int) :: ((wsX7_calls_r1 ++ (wsX7_calls_r2 ++ (wsX7_calls_r3 ++ wsX7_calls_r4))) ++ wsX70)
def wsX7_plays_r1 : List Cond := [Cond.fieldLink RX7 42 "ParticleLinesModel" "runs" "Z", Cond.fieldLink RX7 147 "ParticleLinesModel" "spot" "I", Cond.fieldLink RX7 172 "ParticleLinesModel" "from" "I", Cond.fieldLink RX7 175 "ParticleLinesModel" "orders" "I", Cond.fieldLink RX7 144 "ParticleLinesModel" "typed" "I", Cond.fieldLink RX7 185 "ParticleLinesModel" "reason" "I", Cond.fieldLink RX7 188 "ParticleLinesModel" "cause" "I", Cond.methodLink RX7 178 yX7_reads, Cond.instanceMethod yX7_reads, Cond.selects RX7 yX7_reads yX7_reads, Cond.initialized RX7, Cond.code yX7_reads cX7_reads 3 (some .boolean), Cond.fieldLink RX7 19 "ParticleLinesModel" "text" "[I", Cond.fieldLink RX7 154 "ParticleLinesModel" "kind" "I", Cond.fieldLink RX7 35 "ParticleLinesModel" "told" "[I", Cond.methodLink RX7 150 yX7_isAt, Cond.instanceMethod yX7_isAt, Cond.selects RX7 yX7_isAt yX7_isAt, Cond.code yX7_isAt cX7_isAt 3 (some .boolean), Cond.methodLink RX7 84 yX7_in, Cond.static yX7_in, Cond.code yX7_in cX7_in 3 (some .boolean), Cond.methodLink RX7 157 yX7_passes, Cond.instanceMethod yX7_passes]
def wsX7_plays_r2 : List Cond := [Cond.selects RX7 yX7_passes yX7_passes, Cond.code yX7_passes cX7_passes 3 (some .boolean), Cond.methodLink RX7 160 yX7_number, Cond.instanceMethod yX7_number, Cond.selects RX7 yX7_number yX7_number, Cond.code yX7_number cX7_number 3 (some .boolean), Cond.methodLink RX7 182 yX7_calls, Cond.instanceMethod yX7_calls, Cond.selects RX7 yX7_calls yX7_calls, Cond.code yX7_calls cX7_calls 1 (some .int), Cond.methodLink RX7 163 yX7_move, Cond.instanceMethod yX7_move, Cond.selects RX7 yX7_move yX7_move, Cond.code yX7_move cX7_move 6 (some .int), Cond.constant RX7 88 (-1000001), Cond.fieldLink RX7 7 "ParticleLinesModel" "s" "[I", Cond.constant RX7 101 (-1000003), Cond.methodLink RX7 89 yX7_changes, Cond.instanceMethod yX7_changes, Cond.selects RX7 yX7_changes yX7_changes, Cond.code yX7_changes cX7_changes 2 none, Cond.fieldLink RX7 46 "ParticleLinesModel" "pasts" "I", Cond.fieldLink RX7 13 "ParticleLinesModel" "past" "[I", Cond.methodLink RX7 77 yX7_follows]
def wsX7_plays_r3 : List Cond := [Cond.instanceMethod yX7_follows, Cond.selects RX7 yX7_follows yX7_follows, Cond.code yX7_follows cX7_follows 7 (some .int), Cond.methodLink RX7 81 yX7_placeIn, Cond.instanceMethod yX7_placeIn, Cond.selects RX7 yX7_placeIn yX7_placeIn, Cond.code yX7_placeIn cX7_placeIn 3 (some .int), Cond.methodLink RX7 62 yX7_takes, Cond.instanceMethod yX7_takes, Cond.selects RX7 yX7_takes yX7_takes, Cond.code yX7_takes cX7_takes 1 (some .int), Cond.constant RX7 51 (65537), Cond.methodLink RX7 166 yX7_observe, Cond.instanceMethod yX7_observe, Cond.selects RX7 yX7_observe yX7_observe, Cond.code yX7_observe cX7_observe 6 (some .int), Cond.constant RX7 97 (-1000002), Cond.constant RX7 96 (1000000), Cond.fieldLink RX7 32 "ParticleLinesModel" "before" "[I", Cond.methodLink RX7 105 yX7_looks, Cond.instanceMethod yX7_looks, Cond.selects RX7 yX7_looks yX7_looks, Cond.code yX7_looks cX7_looks 6 (some .int), Cond.methodLink RX7 102 yX7_latest]
def wsX7_plays_r4 : List Cond := [Cond.instanceMethod yX7_latest, Cond.selects RX7 yX7_latest yX7_latest, Cond.code yX7_latest cX7_latest 1 (some .int), Cond.methodLink RX7 98 yX7_divides, Cond.instanceMethod yX7_divides, Cond.selects RX7 yX7_divides yX7_divides, Cond.code yX7_divides cX7_divides 4 (some .int), Cond.methodLink RX7 56 yX7_divisor, Cond.static yX7_divisor, Cond.code yX7_divisor cX7_divisor 5 (some .int), Cond.methodLink RX7 108 yX7_effective, Cond.instanceMethod yX7_effective, Cond.selects RX7 yX7_effective yX7_effective, Cond.code yX7_effective cX7_effective 6 (some .int), Cond.methodLink RX7 52 yX7_sum, Cond.instanceMethod yX7_sum, Cond.selects RX7 yX7_sum yX7_sum, Cond.code yX7_sum cX7_sum 3 (some .int), Cond.methodLink RX7 111 yX7_resamples, Cond.instanceMethod yX7_resamples, Cond.selects RX7 yX7_resamples yX7_resamples, Cond.code yX7_resamples cX7_resamples 3 none, Cond.fieldLink RX7 22 "ParticleLinesModel" "chosen" "[I", Cond.methodLink RX7 74 yX7_chooses]
def wsX7_plays_r5 : List Cond := [Cond.instanceMethod yX7_chooses, Cond.selects RX7 yX7_chooses yX7_chooses, Cond.code yX7_chooses cX7_chooses 2 none, Cond.methodLink RX7 67 yX7_byTimes, Cond.instanceMethod yX7_byTimes, Cond.selects RX7 yX7_byTimes yX7_byTimes, Cond.code yX7_byTimes cX7_byTimes 8 none, Cond.fieldLink RX7 25 "ParticleLinesModel" "times" "[I", Cond.fieldLink RX7 28 "ParticleLinesModel" "rests" "[J", Cond.constantLong RX7 65 (-1), Cond.methodLink RX7 70 yX7_byPoints, Cond.instanceMethod yX7_byPoints, Cond.selects RX7 yX7_byPoints yX7_byPoints, Cond.code yX7_byPoints cX7_byPoints 13 none, Cond.constantLong RX7 60 (100), Cond.methodLink RX7 169 yX7_resample, Cond.instanceMethod yX7_resample, Cond.selects RX7 yX7_resample yX7_resample, Cond.code yX7_resample cX7_resample 1 (some .int), Cond.methodLink RX7 114 yX7_unlike, Cond.instanceMethod yX7_unlike, Cond.selects RX7 yX7_unlike yX7_unlike, Cond.code yX7_unlike cX7_unlike 7 (some .int)]
def wsX7_plays : List Cond := .code yX7_plays cX7_plays 4 (some .boolean) :: ((wsX7_plays_r1 ++ (wsX7_plays_r2 ++ (wsX7_plays_r3 ++ (wsX7_plays_r4 ++ wsX7_plays_r5)))) ++ wsX70)
def wsX7_fault_r1 : List Cond := [Cond.constant RX7 88 (-1000001), Cond.fieldLink RX7 7 "ParticleLinesModel" "s" "[I", Cond.fieldLink RX7 16 "ParticleLinesModel" "held" "[I", Cond.constant RX7 50 (-1000004), Cond.fieldLink RX7 172 "ParticleLinesModel" "from" "I", Cond.fieldLink RX7 185 "ParticleLinesModel" "reason" "I", Cond.fieldLink RX7 188 "ParticleLinesModel" "cause" "I", Cond.methodLink RX7 84 yX7_in, Cond.static yX7_in, Cond.initialized RX7, Cond.code yX7_in cX7_in 3 (some .boolean), Cond.methodLink RX7 191 yX7_copies, Cond.static yX7_copies, Cond.code yX7_copies cX7_copies 3 none, Cond.methodLink RX7 195 yX7_plays, Cond.instanceMethod yX7_plays, Cond.selects RX7 yX7_plays yX7_plays, Cond.code yX7_plays cX7_plays 4 (some .boolean), Cond.fieldLink RX7 42 "ParticleLinesModel" "runs" "Z", Cond.fieldLink RX7 147 "ParticleLinesModel" "spot" "I", Cond.fieldLink RX7 175 "ParticleLinesModel" "orders" "I", Cond.fieldLink RX7 144 "ParticleLinesModel" "typed" "I", Cond.methodLink RX7 178 yX7_reads, Cond.instanceMethod yX7_reads]
def wsX7_fault_r2 : List Cond := [Cond.selects RX7 yX7_reads yX7_reads, Cond.code yX7_reads cX7_reads 3 (some .boolean), Cond.fieldLink RX7 19 "ParticleLinesModel" "text" "[I", Cond.fieldLink RX7 154 "ParticleLinesModel" "kind" "I", Cond.fieldLink RX7 35 "ParticleLinesModel" "told" "[I", Cond.methodLink RX7 150 yX7_isAt, Cond.instanceMethod yX7_isAt, Cond.selects RX7 yX7_isAt yX7_isAt, Cond.code yX7_isAt cX7_isAt 3 (some .boolean), Cond.methodLink RX7 157 yX7_passes, Cond.instanceMethod yX7_passes, Cond.selects RX7 yX7_passes yX7_passes, Cond.code yX7_passes cX7_passes 3 (some .boolean), Cond.methodLink RX7 160 yX7_number, Cond.instanceMethod yX7_number, Cond.selects RX7 yX7_number yX7_number, Cond.code yX7_number cX7_number 3 (some .boolean), Cond.methodLink RX7 182 yX7_calls, Cond.instanceMethod yX7_calls, Cond.selects RX7 yX7_calls yX7_calls, Cond.code yX7_calls cX7_calls 1 (some .int), Cond.methodLink RX7 163 yX7_move, Cond.instanceMethod yX7_move, Cond.selects RX7 yX7_move yX7_move]
def wsX7_fault_r3 : List Cond := [Cond.code yX7_move cX7_move 6 (some .int), Cond.constant RX7 101 (-1000003), Cond.methodLink RX7 89 yX7_changes, Cond.instanceMethod yX7_changes, Cond.selects RX7 yX7_changes yX7_changes, Cond.code yX7_changes cX7_changes 2 none, Cond.fieldLink RX7 46 "ParticleLinesModel" "pasts" "I", Cond.fieldLink RX7 13 "ParticleLinesModel" "past" "[I", Cond.methodLink RX7 77 yX7_follows, Cond.instanceMethod yX7_follows, Cond.selects RX7 yX7_follows yX7_follows, Cond.code yX7_follows cX7_follows 7 (some .int), Cond.methodLink RX7 81 yX7_placeIn, Cond.instanceMethod yX7_placeIn, Cond.selects RX7 yX7_placeIn yX7_placeIn, Cond.code yX7_placeIn cX7_placeIn 3 (some .int), Cond.methodLink RX7 62 yX7_takes, Cond.instanceMethod yX7_takes, Cond.selects RX7 yX7_takes yX7_takes, Cond.code yX7_takes cX7_takes 1 (some .int), Cond.constant RX7 51 (65537), Cond.methodLink RX7 166 yX7_observe, Cond.instanceMethod yX7_observe, Cond.selects RX7 yX7_observe yX7_observe]
def wsX7_fault_r4 : List Cond := [Cond.code yX7_observe cX7_observe 6 (some .int), Cond.constant RX7 97 (-1000002), Cond.constant RX7 96 (1000000), Cond.fieldLink RX7 32 "ParticleLinesModel" "before" "[I", Cond.methodLink RX7 105 yX7_looks, Cond.instanceMethod yX7_looks, Cond.selects RX7 yX7_looks yX7_looks, Cond.code yX7_looks cX7_looks 6 (some .int), Cond.methodLink RX7 102 yX7_latest, Cond.instanceMethod yX7_latest, Cond.selects RX7 yX7_latest yX7_latest, Cond.code yX7_latest cX7_latest 1 (some .int), Cond.methodLink RX7 98 yX7_divides, Cond.instanceMethod yX7_divides, Cond.selects RX7 yX7_divides yX7_divides, Cond.code yX7_divides cX7_divides 4 (some .int), Cond.methodLink RX7 56 yX7_divisor, Cond.static yX7_divisor, Cond.code yX7_divisor cX7_divisor 5 (some .int), Cond.methodLink RX7 108 yX7_effective, Cond.instanceMethod yX7_effective, Cond.selects RX7 yX7_effective yX7_effective, Cond.code yX7_effective cX7_effective 6 (some .int), Cond.methodLink RX7 52 yX7_sum]
def wsX7_fault_r5 : List Cond := [Cond.instanceMethod yX7_sum, Cond.selects RX7 yX7_sum yX7_sum, Cond.code yX7_sum cX7_sum 3 (some .int), Cond.methodLink RX7 111 yX7_resamples, Cond.instanceMethod yX7_resamples, Cond.selects RX7 yX7_resamples yX7_resamples, Cond.code yX7_resamples cX7_resamples 3 none, Cond.fieldLink RX7 22 "ParticleLinesModel" "chosen" "[I", Cond.methodLink RX7 74 yX7_chooses, Cond.instanceMethod yX7_chooses, Cond.selects RX7 yX7_chooses yX7_chooses, Cond.code yX7_chooses cX7_chooses 2 none, Cond.methodLink RX7 67 yX7_byTimes, Cond.instanceMethod yX7_byTimes, Cond.selects RX7 yX7_byTimes yX7_byTimes, Cond.code yX7_byTimes cX7_byTimes 8 none, Cond.fieldLink RX7 25 "ParticleLinesModel" "times" "[I", Cond.fieldLink RX7 28 "ParticleLinesModel" "rests" "[J", Cond.constantLong RX7 65 (-1), Cond.methodLink RX7 70 yX7_byPoints, Cond.instanceMethod yX7_byPoints, Cond.selects RX7 yX7_byPoints yX7_byPoints, Cond.code yX7_byPoints cX7_byPoints 13 none, Cond.constantLong RX7 60 (100)]
def wsX7_fault_r6 : List Cond := [Cond.methodLink RX7 169 yX7_resample, Cond.instanceMethod yX7_resample, Cond.selects RX7 yX7_resample yX7_resample, Cond.code yX7_resample cX7_resample 1 (some .int), Cond.methodLink RX7 114 yX7_unlike, Cond.instanceMethod yX7_unlike, Cond.selects RX7 yX7_unlike yX7_unlike, Cond.code yX7_unlike cX7_unlike 7 (some .int)]
def wsX7_fault : List Cond := .code yX7_fault cX7_fault 3 (some .int) :: ((wsX7_fault_r1 ++ (wsX7_fault_r2 ++ (wsX7_fault_r3 ++ (wsX7_fault_r4 ++ (wsX7_fault_r5 ++ wsX7_fault_r6))))) ++ wsX70)
def wsX7_play_r1 : List Cond := [Cond.fieldLink RX7 7 "ParticleLinesModel" "s" "[I", Cond.fieldLink RX7 16 "ParticleLinesModel" "held" "[I", Cond.constant RX7 97 (-1000002), Cond.fieldLink RX7 175 "ParticleLinesModel" "orders" "I", Cond.constant RX7 50 (-1000004), Cond.methodLink RX7 191 yX7_copies, Cond.static yX7_copies, Cond.initialized RX7, Cond.code yX7_copies cX7_copies 3 none, Cond.methodLink RX7 195 yX7_plays, Cond.instanceMethod yX7_plays, Cond.selects RX7 yX7_plays yX7_plays, Cond.code yX7_plays cX7_plays 4 (some .boolean), Cond.fieldLink RX7 42 "ParticleLinesModel" "runs" "Z", Cond.fieldLink RX7 147 "ParticleLinesModel" "spot" "I", Cond.fieldLink RX7 172 "ParticleLinesModel" "from" "I", Cond.fieldLink RX7 144 "ParticleLinesModel" "typed" "I", Cond.fieldLink RX7 185 "ParticleLinesModel" "reason" "I", Cond.fieldLink RX7 188 "ParticleLinesModel" "cause" "I", Cond.methodLink RX7 178 yX7_reads, Cond.instanceMethod yX7_reads, Cond.selects RX7 yX7_reads yX7_reads, Cond.code yX7_reads cX7_reads 3 (some .boolean), Cond.fieldLink RX7 19 "ParticleLinesModel" "text" "[I"]
def wsX7_play_r2 : List Cond := [Cond.fieldLink RX7 154 "ParticleLinesModel" "kind" "I", Cond.fieldLink RX7 35 "ParticleLinesModel" "told" "[I", Cond.methodLink RX7 150 yX7_isAt, Cond.instanceMethod yX7_isAt, Cond.selects RX7 yX7_isAt yX7_isAt, Cond.code yX7_isAt cX7_isAt 3 (some .boolean), Cond.methodLink RX7 84 yX7_in, Cond.static yX7_in, Cond.code yX7_in cX7_in 3 (some .boolean), Cond.methodLink RX7 157 yX7_passes, Cond.instanceMethod yX7_passes, Cond.selects RX7 yX7_passes yX7_passes, Cond.code yX7_passes cX7_passes 3 (some .boolean), Cond.methodLink RX7 160 yX7_number, Cond.instanceMethod yX7_number, Cond.selects RX7 yX7_number yX7_number, Cond.code yX7_number cX7_number 3 (some .boolean), Cond.methodLink RX7 182 yX7_calls, Cond.instanceMethod yX7_calls, Cond.selects RX7 yX7_calls yX7_calls, Cond.code yX7_calls cX7_calls 1 (some .int), Cond.methodLink RX7 163 yX7_move, Cond.instanceMethod yX7_move, Cond.selects RX7 yX7_move yX7_move]
def wsX7_play_r3 : List Cond := [Cond.code yX7_move cX7_move 6 (some .int), Cond.constant RX7 88 (-1000001), Cond.constant RX7 101 (-1000003), Cond.methodLink RX7 89 yX7_changes, Cond.instanceMethod yX7_changes, Cond.selects RX7 yX7_changes yX7_changes, Cond.code yX7_changes cX7_changes 2 none, Cond.fieldLink RX7 46 "ParticleLinesModel" "pasts" "I", Cond.fieldLink RX7 13 "ParticleLinesModel" "past" "[I", Cond.methodLink RX7 77 yX7_follows, Cond.instanceMethod yX7_follows, Cond.selects RX7 yX7_follows yX7_follows, Cond.code yX7_follows cX7_follows 7 (some .int), Cond.methodLink RX7 81 yX7_placeIn, Cond.instanceMethod yX7_placeIn, Cond.selects RX7 yX7_placeIn yX7_placeIn, Cond.code yX7_placeIn cX7_placeIn 3 (some .int), Cond.methodLink RX7 62 yX7_takes, Cond.instanceMethod yX7_takes, Cond.selects RX7 yX7_takes yX7_takes, Cond.code yX7_takes cX7_takes 1 (some .int), Cond.constant RX7 51 (65537), Cond.methodLink RX7 166 yX7_observe, Cond.instanceMethod yX7_observe]
def wsX7_play_r4 : List Cond := [Cond.selects RX7 yX7_observe yX7_observe, Cond.code yX7_observe cX7_observe 6 (some .int), Cond.constant RX7 96 (1000000), Cond.fieldLink RX7 32 "ParticleLinesModel" "before" "[I", Cond.methodLink RX7 105 yX7_looks, Cond.instanceMethod yX7_looks, Cond.selects RX7 yX7_looks yX7_looks, Cond.code yX7_looks cX7_looks 6 (some .int), Cond.methodLink RX7 102 yX7_latest, Cond.instanceMethod yX7_latest, Cond.selects RX7 yX7_latest yX7_latest, Cond.code yX7_latest cX7_latest 1 (some .int), Cond.methodLink RX7 98 yX7_divides, Cond.instanceMethod yX7_divides, Cond.selects RX7 yX7_divides yX7_divides, Cond.code yX7_divides cX7_divides 4 (some .int), Cond.methodLink RX7 56 yX7_divisor, Cond.static yX7_divisor, Cond.code yX7_divisor cX7_divisor 5 (some .int), Cond.methodLink RX7 108 yX7_effective, Cond.instanceMethod yX7_effective, Cond.selects RX7 yX7_effective yX7_effective, Cond.code yX7_effective cX7_effective 6 (some .int), Cond.methodLink RX7 52 yX7_sum]
def wsX7_play_r5 : List Cond := [Cond.instanceMethod yX7_sum, Cond.selects RX7 yX7_sum yX7_sum, Cond.code yX7_sum cX7_sum 3 (some .int), Cond.methodLink RX7 111 yX7_resamples, Cond.instanceMethod yX7_resamples, Cond.selects RX7 yX7_resamples yX7_resamples, Cond.code yX7_resamples cX7_resamples 3 none, Cond.fieldLink RX7 22 "ParticleLinesModel" "chosen" "[I", Cond.methodLink RX7 74 yX7_chooses, Cond.instanceMethod yX7_chooses, Cond.selects RX7 yX7_chooses yX7_chooses, Cond.code yX7_chooses cX7_chooses 2 none, Cond.methodLink RX7 67 yX7_byTimes, Cond.instanceMethod yX7_byTimes, Cond.selects RX7 yX7_byTimes yX7_byTimes, Cond.code yX7_byTimes cX7_byTimes 8 none, Cond.fieldLink RX7 25 "ParticleLinesModel" "times" "[I", Cond.fieldLink RX7 28 "ParticleLinesModel" "rests" "[J", Cond.constantLong RX7 65 (-1), Cond.methodLink RX7 70 yX7_byPoints, Cond.instanceMethod yX7_byPoints, Cond.selects RX7 yX7_byPoints yX7_byPoints, Cond.code yX7_byPoints cX7_byPoints 13 none, Cond.constantLong RX7 60 (100)]
def wsX7_play_r6 : List Cond := [Cond.methodLink RX7 169 yX7_resample, Cond.instanceMethod yX7_resample, Cond.selects RX7 yX7_resample yX7_resample, Cond.code yX7_resample cX7_resample 1 (some .int), Cond.methodLink RX7 114 yX7_unlike, Cond.instanceMethod yX7_unlike, Cond.selects RX7 yX7_unlike yX7_unlike, Cond.code yX7_unlike cX7_unlike 7 (some .int)]
def wsX7_play : List Cond := .code yX7_play cX7_play 2 (some .int) :: ((wsX7_play_r1 ++ (wsX7_play_r2 ++ (wsX7_play_r3 ++ (wsX7_play_r4 ++ (wsX7_play_r5 ++ wsX7_play_r6))))) ++ wsX70)
def wsJ9_abs_0f7a4 : List Cond := .code yJ9_abs_0f7a4 cJ9_abs_0f7a4 1 (some .int) :: ([])
def wsJ9_max_7cf53 : List Cond := .code yJ9_max_7cf53 cJ9_max_7cf53 2 (some .int) :: ([])
def wsJ9_min_7cf53 : List Cond := .code yJ9_min_7cf53 cJ9_min_7cf53 2 (some .int) :: ([])
def wsL_law_r1 : List Cond := [Cond.classLink RL 7 RX6, Cond.instantiable RX6 8, Cond.initialized RX6, Cond.classLink RL 10 RX7, Cond.instantiable RX7 18, Cond.initialized RX7, Cond.methodLink RL 9 yX6_init, Cond.instanceMethod yX6_init, Cond.code yX6_init cX6_init 2 none, Cond.methodLink RX6 1 objectInit, Cond.instanceMethod objectInit, Cond.code objectInit ⟨#[0xb1]⟩ 1 none, Cond.classLink RX6 7 RX0, Cond.instantiable RX0 3, Cond.initialized RX0, Cond.classLink RX6 10 RX4, Cond.instantiable RX4 7, Cond.initialized RX4, Cond.fieldLink RX6 15 "ParticleLines" "present" "LParticleLines$State;", Cond.fieldLink RX6 21 "ParticleLines" "draft" "LParticleLines$State;", Cond.fieldLink RX6 24 "ParticleLines" "latestPast" "LParticleLines$State;", Cond.fieldLink RX6 27 "ParticleLines" "secondPast" "LParticleLines$State;", Cond.fieldLink RX6 30 "ParticleLines" "thirdPast" "LParticleLines$State;", Cond.fieldLink RX6 33 "ParticleLines" "oldestPast" "LParticleLines$State;"]
def wsL_law_r2 : List Cond := [Cond.fieldLink RX6 36 "ParticleLines" "recorded" "I", Cond.classLink RX6 40 RX3, Cond.instantiable RX3 10, Cond.initialized RX3, Cond.fieldLink RX6 43 "ParticleLines" "script" "LParticleLines$Script;", Cond.methodLink RX6 9 yX0_init, Cond.instanceMethod yX0_init, Cond.code yX0_init cX0_init 1 none, Cond.methodLink RX0 3 objectInit, Cond.arrayClass .int, Cond.fieldLink RX0 9 "ParticleLines$Choice" "ancestors" "[I", Cond.arrayClass .long, Cond.fieldLink RX0 15 "ParticleLines$Choice" "rests" "[J", Cond.fieldLink RX0 19 "ParticleLines$Choice" "noise" "I", Cond.methodLink RX6 12 yX4_init, Cond.instanceMethod yX4_init, Cond.code yX4_init cX4_init 2 none, Cond.methodLink RX4 3 objectInit, Cond.classLink RX4 9 RX1, Cond.instantiable RX1 8, Cond.initialized RX1, Cond.fieldLink RX4 12 "ParticleLines$State" "lineage" "LParticleLines$Lineage;", Cond.classLink RX4 18 RX5, Cond.instantiable RX5 2]
def wsL_law_r3 : List Cond := [Cond.initialized RX5, Cond.fieldLink RX4 21 "ParticleLines$State" "weights" "LParticleLines$Weights;", Cond.classLink RX4 25 RX2, Cond.instantiable RX2 1, Cond.initialized RX2, Cond.fieldLink RX4 30 "ParticleLines$State" "settings" "LParticleLines$Row;", Cond.fieldLink RX4 34 "ParticleLines$State" "choice" "LParticleLines$Choice;", Cond.methodLink RX4 11 yX1_init, Cond.instanceMethod yX1_init, Cond.code yX1_init cX1_init 1 none, Cond.methodLink RX1 3 objectInit, Cond.classLink RX1 9 RX2, Cond.fieldLink RX1 14 "ParticleLines$Lineage" "places" "LParticleLines$Row;", Cond.fieldLink RX1 20 "ParticleLines$Lineage" "parents" "LParticleLines$Row;", Cond.fieldLink RX1 23 "ParticleLines$Lineage" "origins" "LParticleLines$Row;", Cond.fieldLink RX1 26 "ParticleLines$Lineage" "drifts" "LParticleLines$Row;", Cond.fieldLink RX1 29 "ParticleLines$Lineage" "spreads" "LParticleLines$Row;", Cond.fieldLink RX1 32 "ParticleLines$Lineage" "schemes" "LParticleLines$Row;", Cond.fieldLink RX1 35 "ParticleLines$Lineage" "many" "I", Cond.fieldLink RX1 39 "ParticleLines$Lineage" "generations" "I", Cond.methodLink RX1 11 yX2_init, Cond.instanceMethod yX2_init, Cond.code yX2_init cX2_init 2 none, Cond.methodLink RX2 1 objectInit]
def wsL_law_r4 : List Cond := [Cond.methodLink RX2 7 Lib.Math.max.name, Cond.static Lib.Math.max.name, Cond.initialized "java/lang/Math", Cond.code Lib.Math.max.name Lib.Math.max.code 2 (some .int), Cond.fieldLink RX2 13 "ParticleLines$Row" "numbers" "[I", Cond.methodLink RX4 20 yX5_init, Cond.instanceMethod yX5_init, Cond.code yX5_init cX5_init 1 none, Cond.methodLink RX5 3 objectInit, Cond.fieldLink RX5 9 "ParticleLines$Weights" "weights" "[I", Cond.fieldLink RX5 15 "ParticleLines$Weights" "many" "I", Cond.methodLink RX4 27 yX2_init, Cond.methodLink RX4 38 yX2_put, Cond.instanceMethod yX2_put, Cond.selects RX2 yX2_put yX2_put, Cond.code yX2_put cX2_put 3 none, Cond.methodLink RX4 42 yX4_startAnew, Cond.instanceMethod yX4_startAnew, Cond.selects RX4 yX4_startAnew yX4_startAnew, Cond.code yX4_startAnew cX4_startAnew 4 none, Cond.fieldLink RX4 58 "ParticleLines$State" "noise" "I", Cond.fieldLink RX4 62 "ParticleLines$State" "observations" "I", Cond.fieldLink RX4 65 "ParticleLines$State" "resamplings" "I", Cond.methodLink RX4 68 yX1_startWith]
def wsL_law_r5 : List Cond := [Cond.instanceMethod yX1_startWith, Cond.selects RX1 yX1_startWith yX1_startWith, Cond.code yX1_startWith cX1_startWith 5 none, Cond.methodLink RX1 46 yX2_put, Cond.static yX6_nearestPlace, Cond.code yX6_nearestPlace cX6_nearestPlace 1 (some .int), Cond.methodLink RX6 137 Lib.Math.min.name, Cond.static Lib.Math.min.name, Cond.code Lib.Math.min.name Lib.Math.min.code 2 (some .int), Cond.methodLink RX6 142 Lib.Math.max.name, Cond.methodLink RX4 71 yX5_makeEqual, Cond.instanceMethod yX5_makeEqual, Cond.selects RX5 yX5_makeEqual yX5_makeEqual, Cond.code yX5_makeEqual cX5_makeEqual 3 none, Cond.methodLink RX5 19 Lib.Math.min.name, Cond.methodLink RX5 25 Lib.Math.max.name, Cond.methodLink RX6 42 yX3_init, Cond.instanceMethod yX3_init, Cond.code yX3_init cX3_init 1 none, Cond.methodLink RX3 3 objectInit, Cond.fieldLink RX3 9 "ParticleLines$Script" "characters" "[I", Cond.methodLink RL 12 yX7_init, Cond.instanceMethod yX7_init, Cond.code yX7_init cX7_init 1 none]
def wsL_law_r6 : List Cond := [Cond.methodLink RX7 1 objectInit, Cond.fieldLink RX7 7 "ParticleLinesModel" "s" "[I", Cond.fieldLink RX7 13 "ParticleLinesModel" "past" "[I", Cond.fieldLink RX7 16 "ParticleLinesModel" "held" "[I", Cond.fieldLink RX7 19 "ParticleLinesModel" "text" "[I", Cond.fieldLink RX7 22 "ParticleLinesModel" "chosen" "[I", Cond.fieldLink RX7 25 "ParticleLinesModel" "times" "[I", Cond.fieldLink RX7 28 "ParticleLinesModel" "rests" "[J", Cond.fieldLink RX7 32 "ParticleLinesModel" "before" "[I", Cond.fieldLink RX7 35 "ParticleLinesModel" "told" "[I", Cond.methodLink RX7 38 yX7_lays, Cond.instanceMethod yX7_lays, Cond.selects RX7 yX7_lays yX7_lays, Cond.code yX7_lays cX7_lays 6 none, Cond.constant RX7 50 (-1000004), Cond.methodLink RL 13 yX6_begin, Cond.instanceMethod yX6_begin, Cond.selects RX6 yX6_begin yX6_begin, Cond.code yX6_begin cX6_begin 4 (some .int), Cond.methodLink RX6 47 yX4_copyState, Cond.instanceMethod yX4_copyState, Cond.selects RX4 yX4_copyState yX4_copyState, Cond.code yX4_copyState cX4_copyState 2 none, Cond.methodLink RX4 46 yX1_copyLineage]
def wsL_law_r7 : List Cond := [Cond.instanceMethod yX1_copyLineage, Cond.selects RX1 yX1_copyLineage yX1_copyLineage, Cond.code yX1_copyLineage cX1_copyLineage 2 none, Cond.methodLink RX1 42 yX2_copyRow, Cond.instanceMethod yX2_copyRow, Cond.selects RX2 yX2_copyRow yX2_copyRow, Cond.code yX2_copyRow cX2_copyRow 3 none, Cond.methodLink RX4 50 yX5_copyWeights, Cond.instanceMethod yX5_copyWeights, Cond.selects RX5 yX5_copyWeights yX5_copyWeights, Cond.code yX5_copyWeights cX5_copyWeights 3 none, Cond.methodLink RX4 54 yX2_copyRow, Cond.methodLink RX6 51 yX4_beginAnew, Cond.instanceMethod yX4_beginAnew, Cond.selects RX4 yX4_beginAnew yX4_beginAnew, Cond.code yX4_beginAnew cX4_beginAnew 5 (some .int), Cond.constant RX4 78 (-1000001), Cond.static yX6_isWithin, Cond.code yX6_isWithin cX6_isWithin 3 (some .boolean), Cond.methodLink RX4 79 yX1_generations, Cond.instanceMethod yX1_generations, Cond.selects RX1 yX1_generations yX1_generations, Cond.code yX1_generations cX1_generations 1 (some .int), Cond.methodLink RX6 55 yX6_keepDraftUnlessError]
def wsL_law_r8 : List Cond := [Cond.instanceMethod yX6_keepDraftUnlessError, Cond.selects RX6 yX6_keepDraftUnlessError yX6_keepDraftUnlessError, Cond.code yX6_keepDraftUnlessError cX6_keepDraftUnlessError 3 (some .int), Cond.methodLink RL 17 yX7_begin, Cond.instanceMethod yX7_begin, Cond.selects RX7 yX7_begin yX7_begin, Cond.code yX7_begin cX7_begin 5 (some .int), Cond.constant RX7 88 (-1000001), Cond.methodLink RX7 84 yX7_in, Cond.static yX7_in, Cond.code yX7_in cX7_in 3 (some .boolean), Cond.methodLink RX7 89 yX7_changes, Cond.instanceMethod yX7_changes, Cond.selects RX7 yX7_changes yX7_changes, Cond.code yX7_changes cX7_changes 2 none, Cond.fieldLink RX7 42 "ParticleLinesModel" "runs" "Z", Cond.fieldLink RX7 46 "ParticleLinesModel" "pasts" "I", Cond.methodLink RL 18 yX6_weigh, Cond.instanceMethod yX6_weigh, Cond.selects RX6 yX6_weigh yX6_weigh, Cond.code yX6_weigh cX6_weigh 3 (some .int), Cond.methodLink RX6 59 yX4_changeWeight, Cond.instanceMethod yX4_changeWeight, Cond.selects RX4 yX4_changeWeight yX4_changeWeight]
def wsL_law_r9 : List Cond := [Cond.code yX4_changeWeight cX4_changeWeight 3 (some .int), Cond.constant RX4 87 (1000000), Cond.constant RX4 95 (-1000002), Cond.methodLink RX4 83 yX4_hasParticle, Cond.instanceMethod yX4_hasParticle, Cond.selects RX4 yX4_hasParticle yX4_hasParticle, Cond.code yX4_hasParticle cX4_hasParticle 2 (some .boolean), Cond.methodLink RX4 107 yX1_many, Cond.instanceMethod yX1_many, Cond.selects RX1 yX1_many yX1_many, Cond.code yX1_many cX1_many 1 (some .int), Cond.methodLink RX4 88 yX5_putWeight, Cond.instanceMethod yX5_putWeight, Cond.selects RX5 yX5_putWeight yX5_putWeight, Cond.code yX5_putWeight cX5_putWeight 3 none, Cond.methodLink RX4 91 yX5_reduce, Cond.instanceMethod yX5_reduce, Cond.selects RX5 yX5_reduce yX5_reduce, Cond.code yX5_reduce cX5_reduce 4 (some .boolean), Cond.static yX6_commonDivisor, Cond.code yX6_commonDivisor cX6_commonDivisor 11 (some .long), Cond.methodLink RX4 96 yX5_weightOf, Cond.instanceMethod yX5_weightOf, Cond.selects RX5 yX5_weightOf yX5_weightOf]
def wsL_law_r10 : List Cond := [Cond.code yX5_weightOf cX5_weightOf 2 (some .int), Cond.methodLink RL 22 yX7_weigh, Cond.instanceMethod yX7_weigh, Cond.selects RX7 yX7_weigh yX7_weigh, Cond.code yX7_weigh cX7_weigh 3 (some .int), Cond.constant RX7 96 (1000000), Cond.constant RX7 97 (-1000002), Cond.methodLink RX7 92 yX7_isParticle, Cond.instanceMethod yX7_isParticle, Cond.selects RX7 yX7_isParticle yX7_isParticle, Cond.code yX7_isParticle cX7_isParticle 2 (some .boolean), Cond.methodLink RX7 52 yX7_sum, Cond.instanceMethod yX7_sum, Cond.selects RX7 yX7_sum yX7_sum, Cond.code yX7_sum cX7_sum 3 (some .int), Cond.methodLink RX7 98 yX7_divides, Cond.instanceMethod yX7_divides, Cond.selects RX7 yX7_divides yX7_divides, Cond.code yX7_divides cX7_divides 4 (some .int), Cond.methodLink RX7 56 yX7_divisor, Cond.static yX7_divisor, Cond.code yX7_divisor cX7_divisor 5 (some .int), Cond.methodLink RL 23 yX6_move, Cond.instanceMethod yX6_move]
def wsL_law_r11 : List Cond := [Cond.selects RX6 yX6_move yX6_move, Cond.code yX6_move cX6_move 3 (some .int), Cond.methodLink RX6 63 yX4_shift, Cond.instanceMethod yX4_shift, Cond.selects RX4 yX4_shift yX4_shift, Cond.code yX4_shift cX4_shift 6 (some .int), Cond.constant RX4 100 (-1000003), Cond.methodLink RX4 101 yX1_latest, Cond.instanceMethod yX1_latest, Cond.selects RX1 yX1_latest yX1_latest, Cond.code yX1_latest cX1_latest 1 (some .int), Cond.methodLink RX4 104 yX1_addMoved, Cond.instanceMethod yX1_addMoved, Cond.selects RX1 yX1_addMoved yX1_addMoved, Cond.code yX1_addMoved cX1_addMoved 3 none, Cond.static yX6_noiseBehind, Cond.code yX6_noiseBehind cX6_noiseBehind 1 (some .int), Cond.constant RX6 145 (65537), Cond.methodLink RX4 113 yX1_placeIn, Cond.instanceMethod yX1_placeIn, Cond.selects RX1 yX1_placeIn yX1_placeIn, Cond.code yX1_placeIn cX1_placeIn 3 (some .int), Cond.methodLink RX1 58 yX2_at, Cond.instanceMethod yX2_at]
def wsL_law_r12 : List Cond := [Cond.selects RX2 yX2_at yX2_at, Cond.code yX2_at cX2_at 2 (some .int), Cond.methodLink RX4 120 yX1_putParticle, Cond.instanceMethod yX1_putParticle, Cond.selects RX1 yX1_putParticle yX1_putParticle, Cond.code yX1_putParticle cX1_putParticle 5 none, Cond.methodLink RX1 54 yX1_latest, Cond.methodLink RL 26 yX7_move, Cond.instanceMethod yX7_move, Cond.selects RX7 yX7_move yX7_move, Cond.code yX7_move cX7_move 6 (some .int), Cond.constant RX7 101 (-1000003), Cond.methodLink RX7 77 yX7_follows, Cond.instanceMethod yX7_follows, Cond.selects RX7 yX7_follows yX7_follows, Cond.code yX7_follows cX7_follows 7 (some .int), Cond.methodLink RX7 81 yX7_placeIn, Cond.instanceMethod yX7_placeIn, Cond.selects RX7 yX7_placeIn yX7_placeIn, Cond.code yX7_placeIn cX7_placeIn 3 (some .int), Cond.methodLink RX7 62 yX7_takes, Cond.instanceMethod yX7_takes, Cond.selects RX7 yX7_takes yX7_takes, Cond.code yX7_takes cX7_takes 1 (some .int)]
def wsL_law_r13 : List Cond := [Cond.constant RX7 51 (65537), Cond.methodLink RL 27 yX6_observe, Cond.instanceMethod yX6_observe, Cond.selects RX6 yX6_observe yX6_observe, Cond.code yX6_observe cX6_observe 3 (some .int), Cond.methodLink RX6 66 yX4_look, Cond.instanceMethod yX4_look, Cond.selects RX4 yX4_look yX4_look, Cond.code yX4_look cX4_look 5 (some .int), Cond.methodLink RX4 123 Lib.Math.abs.name, Cond.static Lib.Math.abs.name, Cond.code Lib.Math.abs.name Lib.Math.abs.code 1 (some .int), Cond.methodLink RX4 128 Lib.Math.max.name, Cond.methodLink RX4 131 yX5_greatest, Cond.instanceMethod yX5_greatest, Cond.selects RX5 yX5_greatest yX5_greatest, Cond.code yX5_greatest cX5_greatest 3 (some .int), Cond.methodLink RX4 134 yX5_effectiveCount, Cond.instanceMethod yX5_effectiveCount, Cond.selects RX5 yX5_effectiveCount yX5_effectiveCount, Cond.code yX5_effectiveCount cX5_effectiveCount 8 (some .int), Cond.methodLink RX4 137 yX2_at, Cond.methodLink RX4 140 yX4_renew, Cond.instanceMethod yX4_renew]
def wsL_law_r14 : List Cond := [Cond.selects RX4 yX4_renew yX4_renew, Cond.code yX4_renew cX4_renew 5 (some .int), Cond.methodLink RX4 143 yX0_choose, Cond.instanceMethod yX0_choose, Cond.selects RX0 yX0_choose yX0_choose, Cond.code yX0_choose cX0_choose 5 none, Cond.methodLink RX0 23 yX0_chooseByOffset, Cond.instanceMethod yX0_chooseByOffset, Cond.selects RX0 yX0_chooseByOffset yX0_chooseByOffset, Cond.code yX0_chooseByOffset cX0_chooseByOffset 8 none, Cond.constantLong RX0 40 (100), Cond.methodLink RX0 34 yX5_sum, Cond.instanceMethod yX5_sum, Cond.selects RX5 yX5_sum yX5_sum, Cond.code yX5_sum cX5_sum 4 (some .long), Cond.methodLink RX0 45 yX5_firstAbove, Cond.instanceMethod yX5_firstAbove, Cond.selects RX5 yX5_firstAbove yX5_firstAbove, Cond.code yX5_firstAbove cX5_firstAbove 6 (some .int), Cond.methodLink RX0 27 yX0_chooseByNoises, Cond.instanceMethod yX0_chooseByNoises, Cond.selects RX0 yX0_chooseByNoises yX0_chooseByNoises, Cond.code yX0_chooseByNoises cX0_chooseByNoises 5 none, Cond.methodLink RX0 31 yX0_chooseByShares]
def wsL_law_r15 : List Cond := [Cond.instanceMethod yX0_chooseByShares, Cond.selects RX0 yX0_chooseByShares yX0_chooseByShares, Cond.code yX0_chooseByShares cX0_chooseByShares 13 none, Cond.methodLink RX0 53 yX5_weightOf, Cond.methodLink RX0 56 yX0_restsAheadOf, Cond.instanceMethod yX0_restsAheadOf, Cond.selects RX0 yX0_restsAheadOf yX0_restsAheadOf, Cond.code yX0_restsAheadOf cX0_restsAheadOf 8 (some .int), Cond.methodLink RX4 149 yX1_addResampled, Cond.instanceMethod yX1_addResampled, Cond.selects RX1 yX1_addResampled yX1_addResampled, Cond.code yX1_addResampled cX1_addResampled 2 none, Cond.methodLink RX4 152 yX0_chosenFor, Cond.instanceMethod yX0_chosenFor, Cond.selects RX0 yX0_chosenFor yX0_chosenFor, Cond.code yX0_chosenFor cX0_chosenFor 2 (some .int), Cond.methodLink RX4 155 yX0_noise, Cond.instanceMethod yX0_noise, Cond.selects RX0 yX0_noise yX0_noise, Cond.code yX0_noise cX0_noise 1 (some .int), Cond.methodLink RX4 157 yX1_howManyAreAncestors, Cond.instanceMethod yX1_howManyAreAncestors, Cond.selects RX1 yX1_howManyAreAncestors yX1_howManyAreAncestors, Cond.code yX1_howManyAreAncestors cX1_howManyAreAncestors 4 (some .int)]
def wsL_law_r16 : List Cond := [Cond.methodLink RX1 61 yX1_ancestorIn, Cond.instanceMethod yX1_ancestorIn, Cond.selects RX1 yX1_ancestorIn yX1_ancestorIn, Cond.code yX1_ancestorIn cX1_ancestorIn 5 (some .int), Cond.methodLink RX1 65 yJ6_bitCount_0f7a4, Cond.static yJ6_bitCount_0f7a4, Cond.initialized RJ6, Cond.code yJ6_bitCount_0f7a4 cJ6_bitCount_0f7a4 1 (some .int), Cond.constant RJ6 265 (1431655765), Cond.constant RJ6 266 (858993459), Cond.constant RJ6 267 (252645135), Cond.methodLink RL 30 yX7_observe, Cond.instanceMethod yX7_observe, Cond.selects RX7 yX7_observe yX7_observe, Cond.code yX7_observe cX7_observe 6 (some .int), Cond.methodLink RX7 105 yX7_looks, Cond.instanceMethod yX7_looks, Cond.selects RX7 yX7_looks yX7_looks, Cond.code yX7_looks cX7_looks 6 (some .int), Cond.methodLink RX7 102 yX7_latest, Cond.instanceMethod yX7_latest, Cond.selects RX7 yX7_latest yX7_latest, Cond.code yX7_latest cX7_latest 1 (some .int), Cond.methodLink RX7 108 yX7_effective]
def wsL_law_r17 : List Cond := [Cond.instanceMethod yX7_effective, Cond.selects RX7 yX7_effective yX7_effective, Cond.code yX7_effective cX7_effective 6 (some .int), Cond.methodLink RX7 111 yX7_resamples, Cond.instanceMethod yX7_resamples, Cond.selects RX7 yX7_resamples yX7_resamples, Cond.code yX7_resamples cX7_resamples 3 none, Cond.methodLink RX7 74 yX7_chooses, Cond.instanceMethod yX7_chooses, Cond.selects RX7 yX7_chooses yX7_chooses, Cond.code yX7_chooses cX7_chooses 2 none, Cond.methodLink RX7 67 yX7_byTimes, Cond.instanceMethod yX7_byTimes, Cond.selects RX7 yX7_byTimes yX7_byTimes, Cond.code yX7_byTimes cX7_byTimes 8 none, Cond.constantLong RX7 65 (-1), Cond.methodLink RX7 70 yX7_byPoints, Cond.instanceMethod yX7_byPoints, Cond.selects RX7 yX7_byPoints yX7_byPoints, Cond.code yX7_byPoints cX7_byPoints 13 none, Cond.constantLong RX7 60 (100), Cond.methodLink RL 31 yX6_resample, Cond.instanceMethod yX6_resample, Cond.selects RX6 yX6_resample yX6_resample]
def wsL_law_r18 : List Cond := [Cond.code yX6_resample cX6_resample 1 (some .int), Cond.methodLink RX6 69 yX4_renew, Cond.methodLink RL 35 yX7_resample, Cond.instanceMethod yX7_resample, Cond.selects RX7 yX7_resample yX7_resample, Cond.code yX7_resample cX7_resample 1 (some .int), Cond.methodLink RX7 114 yX7_unlike, Cond.instanceMethod yX7_unlike, Cond.selects RX7 yX7_unlike yX7_unlike, Cond.code yX7_unlike cX7_unlike 7 (some .int), Cond.methodLink RL 36 yX6_set, Cond.instanceMethod yX6_set, Cond.selects RX6 yX6_set yX6_set, Cond.code yX6_set cX6_set 3 (some .int), Cond.methodLink RX6 73 yX4_putSetting, Cond.instanceMethod yX4_putSetting, Cond.selects RX4 yX4_putSetting yX4_putSetting, Cond.code yX4_putSetting cX4_putSetting 4 (some .int), Cond.methodLink RX4 160 yX4_greatestSetting, Cond.static yX4_greatestSetting, Cond.code yX4_greatestSetting cX4_greatestSetting 1 (some .int), Cond.methodLink RL 39 yX7_set, Cond.instanceMethod yX7_set, Cond.selects RX7 yX7_set yX7_set]
def wsL_law_r19 : List Cond := [Cond.code yX7_set cX7_set 4 (some .int), Cond.methodLink RL 40 yX6_particleOf, Cond.instanceMethod yX6_particleOf, Cond.selects RX6 yX6_particleOf yX6_particleOf, Cond.code yX6_particleOf cX6_particleOf 3 (some .int), Cond.constant RX6 84 (-1000001), Cond.methodLink RX6 76 yX4_hasParticle, Cond.methodLink RX6 80 yX6_isWithin, Cond.methodLink RX6 85 yX4_tellOfParticle, Cond.instanceMethod yX4_tellOfParticle, Cond.selects RX4 yX4_tellOfParticle yX4_tellOfParticle, Cond.code yX4_tellOfParticle cX4_tellOfParticle 6 (some .int), Cond.constant RX4 163 (-1000004), Cond.methodLink RX4 164 yX1_parentIn, Cond.instanceMethod yX1_parentIn, Cond.selects RX1 yX1_parentIn yX1_parentIn, Cond.code yX1_parentIn cX1_parentIn 3 (some .int), Cond.methodLink RX4 167 yX1_howManyAt, Cond.instanceMethod yX1_howManyAt, Cond.selects RX1 yX1_howManyAt yX1_howManyAt, Cond.code yX1_howManyAt cX1_howManyAt 5 (some .int), Cond.methodLink RX1 70 yX1_placeIn, Cond.methodLink RX4 170 yX5_sum, Cond.static yX6_partInLowestTerms]
def wsL_law_r20 : List Cond := [Cond.code yX6_partInLowestTerms cX6_partInLowestTerms 7 (some .int), Cond.methodLink RX6 146 yX6_commonDivisor, Cond.methodLink RX4 178 yX5_howManyAheadOf, Cond.instanceMethod yX5_howManyAheadOf, Cond.selects RX5 yX5_howManyAheadOf yX5_howManyAheadOf, Cond.code yX5_howManyAheadOf cX5_howManyAheadOf 5 (some .int), Cond.methodLink RX5 32 yX5_weightOf, Cond.methodLink RL 43 yX7_particleOf, Cond.instanceMethod yX7_particleOf, Cond.selects RX7 yX7_particleOf yX7_particleOf, Cond.code yX7_particleOf cX7_particleOf 3 (some .int), Cond.methodLink RX7 117 yX7_likePlaces, Cond.instanceMethod yX7_likePlaces, Cond.selects RX7 yX7_likePlaces yX7_likePlaces, Cond.code yX7_likePlaces cX7_likePlaces 4 (some .int), Cond.methodLink RX7 121 yX7_part, Cond.static yX7_part, Cond.code yX7_part cX7_part 11 (some .int), Cond.methodLink RX7 125 yX7_rank, Cond.instanceMethod yX7_rank, Cond.selects RX7 yX7_rank yX7_rank, Cond.code yX7_rank cX7_rank 5 (some .int), Cond.methodLink RL 44 yX6_generationOf, Cond.instanceMethod yX6_generationOf]
def wsL_law_r21 : List Cond := [Cond.selects RX6 yX6_generationOf yX6_generationOf, Cond.code yX6_generationOf cX6_generationOf 3 (some .int), Cond.methodLink RX6 88 yX4_hasGeneration, Cond.instanceMethod yX4_hasGeneration, Cond.selects RX4 yX4_hasGeneration yX4_hasGeneration, Cond.code yX4_hasGeneration cX4_hasGeneration 2 (some .boolean), Cond.methodLink RX6 91 yX4_tellOfGeneration, Cond.instanceMethod yX4_tellOfGeneration, Cond.selects RX4 yX4_tellOfGeneration yX4_tellOfGeneration, Cond.code yX4_tellOfGeneration cX4_tellOfGeneration 4 (some .int), Cond.methodLink RX4 181 yX1_originOf, Cond.instanceMethod yX1_originOf, Cond.selects RX1 yX1_originOf yX1_originOf, Cond.code yX1_originOf cX1_originOf 2 (some .int), Cond.methodLink RX4 184 yX1_driftOf, Cond.instanceMethod yX1_driftOf, Cond.selects RX1 yX1_driftOf yX1_driftOf, Cond.code yX1_driftOf cX1_driftOf 2 (some .int), Cond.methodLink RX4 187 yX1_spreadOf, Cond.instanceMethod yX1_spreadOf, Cond.selects RX1 yX1_spreadOf yX1_spreadOf, Cond.code yX1_spreadOf cX1_spreadOf 2 (some .int), Cond.methodLink RX4 190 yX1_schemeOf, Cond.instanceMethod yX1_schemeOf]
def wsL_law_r22 : List Cond := [Cond.selects RX1 yX1_schemeOf yX1_schemeOf, Cond.code yX1_schemeOf cX1_schemeOf 2 (some .int), Cond.methodLink RX4 193 yX1_howManyUnlikePlaces, Cond.instanceMethod yX1_howManyUnlikePlaces, Cond.selects RX1 yX1_howManyUnlikePlaces yX1_howManyUnlikePlaces, Cond.code yX1_howManyUnlikePlaces cX1_howManyUnlikePlaces 4 (some .int), Cond.methodLink RX1 73 yX1_isFirstAtItsPlace, Cond.instanceMethod yX1_isFirstAtItsPlace, Cond.selects RX1 yX1_isFirstAtItsPlace yX1_isFirstAtItsPlace, Cond.code yX1_isFirstAtItsPlace cX1_isFirstAtItsPlace 5 (some .boolean), Cond.methodLink RL 47 yX7_generationOf, Cond.instanceMethod yX7_generationOf, Cond.selects RX7 yX7_generationOf yX7_generationOf, Cond.code yX7_generationOf cX7_generationOf 4 (some .int), Cond.methodLink RX7 131 yX7_isGeneration, Cond.instanceMethod yX7_isGeneration, Cond.selects RX7 yX7_isGeneration yX7_isGeneration, Cond.code yX7_isGeneration cX7_isGeneration 2 (some .boolean), Cond.methodLink RX7 134 yX7_alive, Cond.instanceMethod yX7_alive, Cond.selects RX7 yX7_alive yX7_alive, Cond.code yX7_alive cX7_alive 5 (some .int), Cond.methodLink RX7 128 yX7_up, Cond.instanceMethod yX7_up]
def wsL_law_r23 : List Cond := [Cond.selects RX7 yX7_up yX7_up, Cond.code yX7_up cX7_up 5 (some .int), Cond.methodLink RL 48 yX6_ancestor, Cond.instanceMethod yX6_ancestor, Cond.selects RX6 yX6_ancestor yX6_ancestor, Cond.code yX6_ancestor cX6_ancestor 4 (some .int), Cond.methodLink RX6 94 yX4_tellOfAncestor, Cond.instanceMethod yX4_tellOfAncestor, Cond.selects RX4 yX4_tellOfAncestor yX4_tellOfAncestor, Cond.code yX4_tellOfAncestor cX4_tellOfAncestor 5 (some .int), Cond.methodLink RX4 196 yX1_ancestorIn, Cond.methodLink RL 51 yX7_ancestor, Cond.instanceMethod yX7_ancestor, Cond.selects RX7 yX7_ancestor yX7_ancestor, Cond.code yX7_ancestor cX7_ancestor 5 (some .int), Cond.methodLink RL 52 yX6_common, Cond.instanceMethod yX6_common, Cond.selects RX6 yX6_common yX6_common, Cond.code yX6_common cX6_common 3 (some .int), Cond.methodLink RX6 97 yX4_meetingOfTwo, Cond.instanceMethod yX4_meetingOfTwo, Cond.selects RX4 yX4_meetingOfTwo yX4_meetingOfTwo, Cond.code yX4_meetingOfTwo cX4_meetingOfTwo 3 (some .int), Cond.methodLink RX4 199 yX1_meetingOf]
def wsL_law_r24 : List Cond := [Cond.instanceMethod yX1_meetingOf, Cond.selects RX1 yX1_meetingOf yX1_meetingOf, Cond.code yX1_meetingOf cX1_meetingOf 6 (some .int), Cond.constant RX1 80 (-1000004), Cond.methodLink RX1 77 yX1_parentIn, Cond.methodLink RL 55 yX7_common, Cond.instanceMethod yX7_common, Cond.selects RX7 yX7_common yX7_common, Cond.code yX7_common cX7_common 3 (some .int), Cond.methodLink RX7 137 yX7_meeting, Cond.instanceMethod yX7_meeting, Cond.selects RX7 yX7_meeting yX7_meeting, Cond.code yX7_meeting cX7_meeting 7 (some .int), Cond.methodLink RL 56 yX6_root, Cond.instanceMethod yX6_root, Cond.selects RX6 yX6_root yX6_root, Cond.code yX6_root cX6_root 1 (some .int), Cond.methodLink RX6 100 yX4_meetingOfAll, Cond.instanceMethod yX4_meetingOfAll, Cond.selects RX4 yX4_meetingOfAll yX4_meetingOfAll, Cond.code yX4_meetingOfAll cX4_meetingOfAll 3 (some .int), Cond.methodLink RX4 202 Lib.Math.min.name, Cond.methodLink RL 59 yX7_root, Cond.instanceMethod yX7_root]
def wsL_law_r25 : List Cond := [Cond.selects RX7 yX7_root yX7_root, Cond.code yX7_root cX7_root 1 (some .int), Cond.methodLink RL 60 yX6_mean, Cond.instanceMethod yX6_mean, Cond.selects RX6 yX6_mean yX6_mean, Cond.code yX6_mean cX6_mean 3 (some .int), Cond.methodLink RX6 103 yX4_partOfMean, Cond.instanceMethod yX4_partOfMean, Cond.selects RX4 yX4_partOfMean yX4_partOfMean, Cond.code yX4_partOfMean cX4_partOfMean 8 (some .int), Cond.methodLink RL 63 yX7_mean, Cond.instanceMethod yX7_mean, Cond.selects RX7 yX7_mean yX7_mean, Cond.code yX7_mean cX7_mean 6 (some .int), Cond.methodLink RL 64 yX6_share, Cond.instanceMethod yX6_share, Cond.selects RX6 yX6_share yX6_share, Cond.code yX6_share cX6_share 5 (some .int), Cond.methodLink RX6 106 yX4_partOfShare, Cond.instanceMethod yX4_partOfShare, Cond.selects RX4 yX4_partOfShare yX4_partOfShare, Cond.code yX4_partOfShare cX4_partOfShare 9 (some .int), Cond.methodLink RL 68 yX7_share, Cond.instanceMethod yX7_share]
def wsL_law_r26 : List Cond := [Cond.selects RX7 yX7_share yX7_share, Cond.code yX7_share cX7_share 8 (some .int), Cond.methodLink RL 69 yX6_would, Cond.instanceMethod yX6_would, Cond.selects RX6 yX6_would yX6_would, Cond.code yX6_would cX6_would 3 (some .int), Cond.methodLink RX6 110 yX4_chosenBy, Cond.instanceMethod yX4_chosenBy, Cond.selects RX4 yX4_chosenBy yX4_chosenBy, Cond.code yX4_chosenBy cX4_chosenBy 3 (some .int), Cond.methodLink RL 72 yX7_would, Cond.instanceMethod yX7_would, Cond.selects RX7 yX7_would yX7_would, Cond.code yX7_would cX7_would 4 (some .int), Cond.methodLink RL 73 yX6_count, Cond.instanceMethod yX6_count, Cond.selects RX6 yX6_count yX6_count, Cond.code yX6_count cX6_count 2 (some .int), Cond.methodLink RX6 113 yX3_length, Cond.instanceMethod yX3_length, Cond.selects RX3 yX3_length yX3_length, Cond.code yX3_length cX3_length 1 (some .int), Cond.fieldLink RX3 15 "ParticleLines$Script" "length" "I", Cond.methodLink RX6 116 yX4_number]
def wsL_law_r27 : List Cond := [Cond.instanceMethod yX4_number, Cond.selects RX4 yX4_number yX4_number, Cond.code yX4_number cX4_number 2 (some .int), Cond.methodLink RX4 205 yX5_howManyAreZero, Cond.instanceMethod yX5_howManyAreZero, Cond.selects RX5 yX5_howManyAreZero yX5_howManyAreZero, Cond.code yX5_howManyAreZero cX5_howManyAreZero 3 (some .int), Cond.methodLink RL 77 yX7_count, Cond.instanceMethod yX7_count, Cond.selects RX7 yX7_count yX7_count, Cond.code yX7_count cX7_count 2 (some .int), Cond.fieldLink RX7 144 "ParticleLinesModel" "typed" "I", Cond.methodLink RX7 141 yX7_zeros, Cond.instanceMethod yX7_zeros, Cond.selects RX7 yX7_zeros yX7_zeros, Cond.code yX7_zeros cX7_zeros 3 (some .int), Cond.methodLink RL 78 yX6_undo, Cond.instanceMethod yX6_undo, Cond.selects RX6 yX6_undo yX6_undo, Cond.code yX6_undo cX6_undo 2 (some .int), Cond.constant RX6 119 (-1000002), Cond.methodLink RL 81 yX7_undo, Cond.instanceMethod yX7_undo, Cond.selects RX7 yX7_undo yX7_undo]
def wsL_law_r28 : List Cond := [Cond.code yX7_undo cX7_undo 2 (some .int), Cond.methodLink RL 82 yX6_type, Cond.instanceMethod yX6_type, Cond.selects RX6 yX6_type yX6_type, Cond.code yX6_type cX6_type 2 (some .int), Cond.methodLink RX6 120 yX3_append, Cond.instanceMethod yX3_append, Cond.selects RX3 yX3_append yX3_append, Cond.code yX3_append cX3_append 2 (some .int), Cond.constant RX3 19 (-1000003), Cond.methodLink RL 85 yX7_type, Cond.instanceMethod yX7_type, Cond.selects RX7 yX7_type yX7_type, Cond.code yX7_type cX7_type 2 (some .int), Cond.methodLink RL 86 yX6_clearText, Cond.instanceMethod yX6_clearText, Cond.selects RX6 yX6_clearText yX6_clearText, Cond.code yX6_clearText cX6_clearText 1 (some .int), Cond.methodLink RX6 123 yX3_empty, Cond.instanceMethod yX3_empty, Cond.selects RX3 yX3_empty yX3_empty, Cond.code yX3_empty cX3_empty 2 (some .int), Cond.methodLink RL 89 yX7_clearText, Cond.instanceMethod yX7_clearText]
def wsL_law_r29 : List Cond := [Cond.selects RX7 yX7_clearText yX7_clearText, Cond.code yX7_clearText cX7_clearText 2 (some .int), Cond.methodLink RL 90 yX6_fault, Cond.instanceMethod yX6_fault, Cond.selects RX6 yX6_fault yX6_fault, Cond.code yX6_fault cX6_fault 2 (some .int), Cond.constant RX6 130 (-1000004), Cond.methodLink RX6 126 yX3_perform, Cond.instanceMethod yX3_perform, Cond.selects RX3 yX3_perform yX3_perform, Cond.code yX3_perform cX3_perform 4 (some .boolean), Cond.fieldLink RX3 32 "ParticleLines$Script" "position" "I", Cond.fieldLink RX3 20 "ParticleLines$Script" "ordersDone" "I", Cond.fieldLink RX3 23 "ParticleLines$Script" "start" "I", Cond.fieldLink RX3 26 "ParticleLines$Script" "reason" "I", Cond.fieldLink RX3 29 "ParticleLines$Script" "cause" "I", Cond.fieldLink RX3 39 "ParticleLines$Script" "kind" "I", Cond.fieldLink RX3 42 "ParticleLines$Script" "first" "I", Cond.fieldLink RX3 45 "ParticleLines$Script" "second" "I", Cond.methodLink RX3 35 yX3_readOrder, Cond.instanceMethod yX3_readOrder, Cond.selects RX3 yX3_readOrder yX3_readOrder, Cond.code yX3_readOrder cX3_readOrder 1 (some .boolean), Cond.methodLink RX3 61 yX3_here]
def wsL_law_r30 : List Cond := [Cond.instanceMethod yX3_here, Cond.selects RX3 yX3_here yX3_here, Cond.code yX3_here cX3_here 1 (some .int), Cond.methodLink RX3 64 yX3_readNumbers, Cond.instanceMethod yX3_readNumbers, Cond.selects RX3 yX3_readNumbers yX3_readNumbers, Cond.code yX3_readNumbers cX3_readNumbers 3 (some .boolean), Cond.methodLink RX3 67 yX3_pass, Cond.instanceMethod yX3_pass, Cond.selects RX3 yX3_pass yX3_pass, Cond.code yX3_pass cX3_pass 2 (some .boolean), Cond.methodLink RX3 71 yX3_isDigitHere, Cond.instanceMethod yX3_isDigitHere, Cond.selects RX3 yX3_isDigitHere yX3_isDigitHere, Cond.code yX3_isDigitHere cX3_isDigitHere 1 (some .boolean), Cond.methodLink RX3 74 yX3_readNumber, Cond.instanceMethod yX3_readNumber, Cond.selects RX3 yX3_readNumber yX3_readNumber, Cond.code yX3_readNumber cX3_readNumber 3 (some .int), Cond.methodLink RX3 48 yX4_shift, Cond.methodLink RX3 54 yX4_look, Cond.methodLink RX3 57 yX4_renew, Cond.methodLink RX6 131 yX3_tellOfFault, Cond.instanceMethod yX3_tellOfFault]
def wsL_law_r31 : List Cond := [Cond.selects RX3 yX3_tellOfFault yX3_tellOfFault, Cond.code yX3_tellOfFault cX3_tellOfFault 2 (some .int), Cond.methodLink RL 93 yX7_fault, Cond.instanceMethod yX7_fault, Cond.selects RX7 yX7_fault yX7_fault, Cond.code yX7_fault cX7_fault 3 (some .int), Cond.fieldLink RX7 172 "ParticleLinesModel" "from" "I", Cond.fieldLink RX7 185 "ParticleLinesModel" "reason" "I", Cond.fieldLink RX7 188 "ParticleLinesModel" "cause" "I", Cond.methodLink RX7 191 yX7_copies, Cond.static yX7_copies, Cond.code yX7_copies cX7_copies 3 none, Cond.methodLink RX7 195 yX7_plays, Cond.instanceMethod yX7_plays, Cond.selects RX7 yX7_plays yX7_plays, Cond.code yX7_plays cX7_plays 4 (some .boolean), Cond.fieldLink RX7 147 "ParticleLinesModel" "spot" "I", Cond.fieldLink RX7 175 "ParticleLinesModel" "orders" "I", Cond.methodLink RX7 178 yX7_reads, Cond.instanceMethod yX7_reads, Cond.selects RX7 yX7_reads yX7_reads, Cond.code yX7_reads cX7_reads 3 (some .boolean), Cond.fieldLink RX7 154 "ParticleLinesModel" "kind" "I", Cond.methodLink RX7 150 yX7_isAt]
def wsL_law_r32 : List Cond := [Cond.instanceMethod yX7_isAt, Cond.selects RX7 yX7_isAt yX7_isAt, Cond.code yX7_isAt cX7_isAt 3 (some .boolean), Cond.methodLink RX7 157 yX7_passes, Cond.instanceMethod yX7_passes, Cond.selects RX7 yX7_passes yX7_passes, Cond.code yX7_passes cX7_passes 3 (some .boolean), Cond.methodLink RX7 160 yX7_number, Cond.instanceMethod yX7_number, Cond.selects RX7 yX7_number yX7_number, Cond.code yX7_number cX7_number 3 (some .boolean), Cond.methodLink RX7 182 yX7_calls, Cond.instanceMethod yX7_calls, Cond.selects RX7 yX7_calls yX7_calls, Cond.code yX7_calls cX7_calls 1 (some .int), Cond.methodLink RX7 163 yX7_move, Cond.methodLink RX7 166 yX7_observe, Cond.methodLink RX7 169 yX7_resample, Cond.methodLink RL 94 yX6_play, Cond.instanceMethod yX6_play, Cond.selects RX6 yX6_play yX6_play, Cond.code yX6_play cX6_play 1 (some .int), Cond.methodLink RX6 134 yX3_ordersDone, Cond.instanceMethod yX3_ordersDone]
def wsL_law_r33 : List Cond := [Cond.selects RX3 yX3_ordersDone yX3_ordersDone, Cond.code yX3_ordersDone cX3_ordersDone 1 (some .int), Cond.methodLink RL 97 yX7_play, Cond.instanceMethod yX7_play, Cond.selects RX7 yX7_play yX7_play, Cond.code yX7_play cX7_play 2 (some .int)]
def wsL_law : List Cond := (wsL_law_r1 ++ (wsL_law_r2 ++ (wsL_law_r3 ++ (wsL_law_r4 ++ (wsL_law_r5 ++ (wsL_law_r6 ++ (wsL_law_r7 ++ (wsL_law_r8 ++ (wsL_law_r9 ++ (wsL_law_r10 ++ (wsL_law_r11 ++ (wsL_law_r12 ++ (wsL_law_r13 ++ (wsL_law_r14 ++ (wsL_law_r15 ++ (wsL_law_r16 ++ (wsL_law_r17 ++ (wsL_law_r18 ++ (wsL_law_r19 ++ (wsL_law_r20 ++ (wsL_law_r21 ++ (wsL_law_r22 ++ (wsL_law_r23 ++ (wsL_law_r24 ++ (wsL_law_r25 ++ (wsL_law_r26 ++ (wsL_law_r27 ++ (wsL_law_r28 ++ (wsL_law_r29 ++ (wsL_law_r30 ++ (wsL_law_r31 ++ (wsL_law_r32 ++ wsL_law_r33)))))))))))))))))))))))))))))))) ++ wsX60 ++ wsX70 ++ wsX00 ++ wsX40 ++ wsX30 ++ wsX10 ++ wsX50 ++ wsX20 ++ ([] : List Cond)
set_option maxRecDepth 20000 in
theorem wsL_law_in : ∀ w ∈ wsL_law, w ∈ lw_tbl := fun w h => (goodIn_p wsL_law [57, 60, 65, 83, 89, 95, 99, 133, 148, 152, 156, 160, 163, 168, 197, 672, 677, 258, 262, 266, 270, 274, 279, 282, 287, 291, 737, 740, 745, 295, 299, 303, 307, 312, 316, 319, 324, 749, 753, 758, 763, 766, 328, 332, 337, 341, 344, 349, 353, 358, 770, 775, 779, 783, 363, 367, 370, 375, 379, 384, 388, 392, 396, 401, 405, 410, 415, 419, 423, 427, 431, 435, 438, 788, 792, 796, 800, 804, 808, 812, 817, 445, 822, 826, 450, 454, 457, 830, 461, 468, 473, 477, 482, 487, 834, 838, 841, 845, 492, 496, 500, 504, 508, 512, 516, 520, 524, 849, 853, 857, 861, 528, 532, 865, 537, 541, 545, 869, 873, 551, 555, 877, 560, 564, 881, 568, 572, 885, 576, 580, 889, 584, 588, 592, 596, 893, 897, 600, 901, 605, 609, 905, 614, 618, 909, 622, 626, 630, 634, 638, 642, 646, 651, 659, 913, 916, 920, 924, 928, 932, 936, 940, 663, 667, 947] (by decide +kernel) (by decide +kernel) w h).1
theorem inlX0 : ∀ w ∈ wsX00, w ∈ wsL_law := fun _ h => List.mem_append_left _ (List.mem_append_left _ (List.mem_append_left _ (List.mem_append_left _ (List.mem_append_left _ (List.mem_append_left _ (List.mem_append_right _ h))))))
theorem inX0 : ∀ w ∈ wsX00, w ∈ lw_tbl := fun w h => wsL_law_in w (inlX0 w h)
theorem inlX1 : ∀ w ∈ wsX10, w ∈ wsL_law := fun _ h => List.mem_append_left _ (List.mem_append_left _ (List.mem_append_left _ (List.mem_append_right _ h)))
theorem inX1 : ∀ w ∈ wsX10, w ∈ lw_tbl := fun w h => wsL_law_in w (inlX1 w h)
theorem inlX2 : ∀ w ∈ wsX20, w ∈ wsL_law := fun _ h => List.mem_append_left _ (List.mem_append_right _ h)
theorem inX2 : ∀ w ∈ wsX20, w ∈ lw_tbl := fun w h => wsL_law_in w (inlX2 w h)
theorem inlX3 : ∀ w ∈ wsX30, w ∈ wsL_law := fun _ h => List.mem_append_left _ (List.mem_append_left _ (List.mem_append_left _ (List.mem_append_left _ (List.mem_append_right _ h))))
theorem inX3 : ∀ w ∈ wsX30, w ∈ lw_tbl := fun w h => wsL_law_in w (inlX3 w h)
theorem inlX4 : ∀ w ∈ wsX40, w ∈ wsL_law := fun _ h => List.mem_append_left _ (List.mem_append_left _ (List.mem_append_left _ (List.mem_append_left _ (List.mem_append_left _ (List.mem_append_right _ h)))))
theorem inX4 : ∀ w ∈ wsX40, w ∈ lw_tbl := fun w h => wsL_law_in w (inlX4 w h)
theorem inlX5 : ∀ w ∈ wsX50, w ∈ wsL_law := fun _ h => List.mem_append_left _ (List.mem_append_left _ (List.mem_append_right _ h))
theorem inX5 : ∀ w ∈ wsX50, w ∈ lw_tbl := fun w h => wsL_law_in w (inlX5 w h)
theorem inlX6 : ∀ w ∈ wsX60, w ∈ wsL_law := fun _ h => List.mem_append_left _ (List.mem_append_left _ (List.mem_append_left _ (List.mem_append_left _ (List.mem_append_left _ (List.mem_append_left _ (List.mem_append_left _ (List.mem_append_left _ (List.mem_append_right _ h))))))))
theorem inX6 : ∀ w ∈ wsX60, w ∈ lw_tbl := fun w h => wsL_law_in w (inlX6 w h)
theorem inlX7 : ∀ w ∈ wsX70, w ∈ wsL_law := fun _ h => List.mem_append_left _ (List.mem_append_left _ (List.mem_append_left _ (List.mem_append_left _ (List.mem_append_left _ (List.mem_append_left _ (List.mem_append_left _ (List.mem_append_right _ h)))))))
theorem inX7 : ∀ w ∈ wsX70, w ∈ lw_tbl := fun w h => wsL_law_in w (inlX7 w h)
theorem inJ6 : ∀ w ∈ wsJ60, w ∈ lw_tbl := by decide +kernel
theorem inJ9 : ∀ w ∈ wsJ90, w ∈ lw_tbl := by decide +kernel
theorem dX0_init_0 : decode cX0_init 0 = .ok (.aload_n 0, 1) := by decide +kernel
theorem dX0_init_1 : decode cX0_init 1 = .ok (.invokespecial 3, 3) := by decide +kernel
theorem dX0_init_4 : decode cX0_init 4 = .ok (.aload_n 0, 1) := by decide +kernel
theorem dX0_init_5 : decode cX0_init 5 = .ok (.bipush 12, 2) := by decide +kernel
theorem dX0_init_7 : decode cX0_init 7 = .ok (.newarray .int, 2) := by decide +kernel
theorem dX0_init_9 : decode cX0_init 9 = .ok (.putfield 9, 3) := by decide +kernel
theorem dX0_init_12 : decode cX0_init 12 = .ok (.aload_n 0, 1) := by decide +kernel
theorem dX0_init_13 : decode cX0_init 13 = .ok (.bipush 12, 2) := by decide +kernel
theorem dX0_init_15 : decode cX0_init 15 = .ok (.newarray .long, 2) := by decide +kernel
theorem dX0_init_17 : decode cX0_init 17 = .ok (.putfield 15, 3) := by decide +kernel
theorem dX0_init_20 : decode cX0_init 20 = .ok (.aload_n 0, 1) := by decide +kernel
theorem dX0_init_21 : decode cX0_init 21 = .ok (.iconst 0, 1) := by decide +kernel
theorem dX0_init_22 : decode cX0_init 22 = .ok (.putfield 19, 3) := by decide +kernel
theorem dX0_init_25 : decode cX0_init 25 = .ok (.return_, 1) := by decide +kernel
theorem dX0_chosenFor_0 : decode cX0_chosenFor 0 = .ok (.iload_n 1, 1) := by decide +kernel
theorem dX0_chosenFor_1 : decode cX0_chosenFor 1 = .ok (.ifCond .lt 12, 3) := by decide +kernel
theorem dX0_chosenFor_4 : decode cX0_chosenFor 4 = .ok (.iload_n 1, 1) := by decide +kernel
theorem dX0_chosenFor_5 : decode cX0_chosenFor 5 = .ok (.aload_n 0, 1) := by decide +kernel
theorem dX0_chosenFor_6 : decode cX0_chosenFor 6 = .ok (.getfield 9, 3) := by decide +kernel
theorem dX0_chosenFor_9 : decode cX0_chosenFor 9 = .ok (.arraylength, 1) := by decide +kernel
theorem dX0_chosenFor_10 : decode cX0_chosenFor 10 = .ok (.if_icmp .lt 5, 3) := by decide +kernel
theorem dX0_chosenFor_13 : decode cX0_chosenFor 13 = .ok (.iconst 0, 1) := by decide +kernel
theorem dX0_chosenFor_14 : decode cX0_chosenFor 14 = .ok (.ireturn, 1) := by decide +kernel
theorem dX0_chosenFor_15 : decode cX0_chosenFor 15 = .ok (.aload_n 0, 1) := by decide +kernel
theorem dX0_chosenFor_16 : decode cX0_chosenFor 16 = .ok (.getfield 9, 3) := by decide +kernel
theorem dX0_chosenFor_19 : decode cX0_chosenFor 19 = .ok (.iload_n 1, 1) := by decide +kernel
theorem dX0_chosenFor_20 : decode cX0_chosenFor 20 = .ok (.iaload, 1) := by decide +kernel
theorem dX0_chosenFor_21 : decode cX0_chosenFor 21 = .ok (.ireturn, 1) := by decide +kernel
theorem dX0_noise_0 : decode cX0_noise 0 = .ok (.aload_n 0, 1) := by decide +kernel
theorem dX0_noise_1 : decode cX0_noise 1 = .ok (.getfield 19, 3) := by decide +kernel
theorem dX0_noise_4 : decode cX0_noise 4 = .ok (.ireturn, 1) := by decide +kernel
set_option maxRecDepth 20000 in
theorem ggX0_choose_X0_chooseByOffset : GoodIn wsX0_choose wsX0_chooseByOffset := goodIn_r _ [6, 7, 8, 9, 10, 11, 12, 13, 14, 15, 16, 17, 18, 19, 44, 45, 41, 42, 43] (by decide +kernel) (by decide +kernel)
set_option maxRecDepth 20000 in
theorem gX0_choose_X0_chooseByOffset : GoodIn wsX0_choose (wsV RX0 23 RX0 yX0_chooseByOffset wsX0_chooseByOffset) := goodIn_app (goodIn_of _ (by decide +kernel)) ggX0_choose_X0_chooseByOffset
set_option maxRecDepth 20000 in
theorem ggX0_choose_X0_chooseByNoises : GoodIn wsX0_choose wsX0_chooseByNoises := goodIn_r _ [23, 8, 1, 9, 10, 11, 12, 13, 14, 15, 24, 25, 26, 27, 16, 17, 18, 19, 44, 45, 41, 42, 43] (by decide +kernel) (by decide +kernel)
set_option maxRecDepth 20000 in
theorem gX0_choose_X0_chooseByNoises : GoodIn wsX0_choose (wsV RX0 27 RX0 yX0_chooseByNoises wsX0_chooseByNoises) := goodIn_app (goodIn_of _ (by decide +kernel)) ggX0_choose_X0_chooseByNoises
set_option maxRecDepth 20000 in
theorem ggX0_choose_X0_chooseByShares : GoodIn wsX0_choose wsX0_chooseByShares := goodIn_r _ [31, 32, 8, 9, 10, 11, 12, 13, 14, 15, 33, 34, 35, 36, 37, 38, 39, 5, 40, 44, 45, 41, 42, 43] (by decide +kernel) (by decide +kernel)
set_option maxRecDepth 20000 in
theorem gX0_choose_X0_chooseByShares : GoodIn wsX0_choose (wsV RX0 31 RX0 yX0_chooseByShares wsX0_chooseByShares) := goodIn_app (goodIn_of _ (by decide +kernel)) ggX0_choose_X0_chooseByShares
theorem dX0_choose_0 : decode cX0_choose 0 = .ok (.aload_n 0, 1) := by decide +kernel
theorem dX0_choose_1 : decode cX0_choose 1 = .ok (.iload 4, 2) := by decide +kernel
theorem dX0_choose_3 : decode cX0_choose 3 = .ok (.putfield 19, 3) := by decide +kernel
theorem dX0_choose_6 : decode cX0_choose 6 = .ok (.iload_n 1, 1) := by decide +kernel
theorem dX0_choose_7 : decode cX0_choose 7 = .ok (.ifCond .ne 12, 3) := by decide +kernel
theorem dX0_choose_10 : decode cX0_choose 10 = .ok (.aload_n 0, 1) := by decide +kernel
theorem dX0_choose_11 : decode cX0_choose 11 = .ok (.aload_n 2, 1) := by decide +kernel
theorem dX0_choose_12 : decode cX0_choose 12 = .ok (.iload_n 3, 1) := by decide +kernel
theorem dX0_choose_13 : decode cX0_choose 13 = .ok (.invokevirtual 23, 3) := by decide +kernel
theorem dX0_choose_16 : decode cX0_choose 16 = .ok (.goto 21, 3) := by decide +kernel
theorem dX0_choose_19 : decode cX0_choose 19 = .ok (.iload_n 1, 1) := by decide +kernel
theorem dX0_choose_20 : decode cX0_choose 20 = .ok (.iconst 1, 1) := by decide +kernel
theorem dX0_choose_21 : decode cX0_choose 21 = .ok (.if_icmp .ne 11, 3) := by decide +kernel
theorem dX0_choose_24 : decode cX0_choose 24 = .ok (.aload_n 0, 1) := by decide +kernel
theorem dX0_choose_25 : decode cX0_choose 25 = .ok (.aload_n 2, 1) := by decide +kernel
theorem dX0_choose_26 : decode cX0_choose 26 = .ok (.invokevirtual 27, 3) := by decide +kernel
theorem dX0_choose_29 : decode cX0_choose 29 = .ok (.goto 8, 3) := by decide +kernel
theorem dX0_choose_32 : decode cX0_choose 32 = .ok (.aload_n 0, 1) := by decide +kernel
theorem dX0_choose_33 : decode cX0_choose 33 = .ok (.aload_n 2, 1) := by decide +kernel
theorem dX0_choose_34 : decode cX0_choose 34 = .ok (.invokevirtual 31, 3) := by decide +kernel
theorem dX0_choose_37 : decode cX0_choose 37 = .ok (.return_, 1) := by decide +kernel
set_option maxRecDepth 20000 in
theorem ggX0_chooseByOffset_X5_sum : GoodIn wsX0_chooseByOffset wsX5_sum := goodIn_r _ [7, 8, 9, 14, 15] (by decide +kernel) (by decide +kernel)
set_option maxRecDepth 20000 in
theorem gX0_chooseByOffset_X5_sum : GoodIn wsX0_chooseByOffset (wsV RX0 34 RX5 yX5_sum wsX5_sum) := goodIn_app (goodIn_of _ (by decide +kernel)) ggX0_chooseByOffset_X5_sum
set_option maxRecDepth 20000 in
theorem ggX0_chooseByOffset_X5_firstAbove : GoodIn wsX0_chooseByOffset wsX5_firstAbove := goodIn_r _ [13, 8, 9, 14, 15] (by decide +kernel) (by decide +kernel)
set_option maxRecDepth 20000 in
theorem gX0_chooseByOffset_X5_firstAbove : GoodIn wsX0_chooseByOffset (wsV RX0 45 RX5 yX5_firstAbove wsX5_firstAbove) := goodIn_app (goodIn_of _ (by decide +kernel)) ggX0_chooseByOffset_X5_firstAbove
theorem dX0_chooseByOffset_0 : decode cX0_chooseByOffset 0 = .ok (.aload_n 1, 1) := by decide +kernel
theorem dX0_chooseByOffset_1 : decode cX0_chooseByOffset 1 = .ok (.invokevirtual 34, 3) := by decide +kernel
theorem dX0_chooseByOffset_4 : decode cX0_chooseByOffset 4 = .ok (.lstore_n 3, 1) := by decide +kernel
theorem dX0_chooseByOffset_5 : decode cX0_chooseByOffset 5 = .ok (.iload_n 2, 1) := by decide +kernel
theorem dX0_chooseByOffset_6 : decode cX0_chooseByOffset 6 = .ok (.i2l, 1) := by decide +kernel
theorem dX0_chooseByOffset_7 : decode cX0_chooseByOffset 7 = .ok (.lload_n 3, 1) := by decide +kernel
theorem dX0_chooseByOffset_8 : decode cX0_chooseByOffset 8 = .ok (.lmul, 1) := by decide +kernel
theorem dX0_chooseByOffset_9 : decode cX0_chooseByOffset 9 = .ok (.ldc2_w 40, 3) := by decide +kernel
theorem dX0_chooseByOffset_12 : decode cX0_chooseByOffset 12 = .ok (.ldiv, 1) := by decide +kernel
theorem dX0_chooseByOffset_13 : decode cX0_chooseByOffset 13 = .ok (.lstore 5, 2) := by decide +kernel
theorem dX0_chooseByOffset_15 : decode cX0_chooseByOffset 15 = .ok (.iconst 0, 1) := by decide +kernel
theorem dX0_chooseByOffset_16 : decode cX0_chooseByOffset 16 = .ok (.istore 7, 2) := by decide +kernel
theorem dX0_chooseByOffset_18 : decode cX0_chooseByOffset 18 = .ok (.iload 7, 2) := by decide +kernel
theorem dX0_chooseByOffset_20 : decode cX0_chooseByOffset 20 = .ok (.aload_n 1, 1) := by decide +kernel
theorem dX0_chooseByOffset_21 : decode cX0_chooseByOffset 21 = .ok (.getfield 42, 3) := by decide +kernel
theorem dX0_chooseByOffset_24 : decode cX0_chooseByOffset 24 = .ok (.if_icmp .ge 38, 3) := by decide +kernel
theorem dX0_chooseByOffset_27 : decode cX0_chooseByOffset 27 = .ok (.iload 7, 2) := by decide +kernel
theorem dX0_chooseByOffset_29 : decode cX0_chooseByOffset 29 = .ok (.aload_n 0, 1) := by decide +kernel
theorem dX0_chooseByOffset_30 : decode cX0_chooseByOffset 30 = .ok (.getfield 9, 3) := by decide +kernel
theorem dX0_chooseByOffset_33 : decode cX0_chooseByOffset 33 = .ok (.arraylength, 1) := by decide +kernel
theorem dX0_chooseByOffset_34 : decode cX0_chooseByOffset 34 = .ok (.if_icmp .ge 28, 3) := by decide +kernel
theorem dX0_chooseByOffset_37 : decode cX0_chooseByOffset 37 = .ok (.aload_n 0, 1) := by decide +kernel
theorem dX0_chooseByOffset_38 : decode cX0_chooseByOffset 38 = .ok (.getfield 9, 3) := by decide +kernel
theorem dX0_chooseByOffset_41 : decode cX0_chooseByOffset 41 = .ok (.iload 7, 2) := by decide +kernel
theorem dX0_chooseByOffset_43 : decode cX0_chooseByOffset 43 = .ok (.aload_n 1, 1) := by decide +kernel
theorem dX0_chooseByOffset_44 : decode cX0_chooseByOffset 44 = .ok (.iload 7, 2) := by decide +kernel
theorem dX0_chooseByOffset_46 : decode cX0_chooseByOffset 46 = .ok (.i2l, 1) := by decide +kernel
theorem dX0_chooseByOffset_47 : decode cX0_chooseByOffset 47 = .ok (.lload_n 3, 1) := by decide +kernel
theorem dX0_chooseByOffset_48 : decode cX0_chooseByOffset 48 = .ok (.lmul, 1) := by decide +kernel
theorem dX0_chooseByOffset_49 : decode cX0_chooseByOffset 49 = .ok (.lload 5, 2) := by decide +kernel
theorem dX0_chooseByOffset_51 : decode cX0_chooseByOffset 51 = .ok (.ladd, 1) := by decide +kernel
theorem dX0_chooseByOffset_52 : decode cX0_chooseByOffset 52 = .ok (.invokevirtual 45, 3) := by decide +kernel
theorem dX0_chooseByOffset_55 : decode cX0_chooseByOffset 55 = .ok (.iastore, 1) := by decide +kernel
theorem dX0_chooseByOffset_56 : decode cX0_chooseByOffset 56 = .ok (.iinc 7 1, 3) := by decide +kernel
theorem dX0_chooseByOffset_59 : decode cX0_chooseByOffset 59 = .ok (.goto (-41), 3) := by decide +kernel
theorem dX0_chooseByOffset_62 : decode cX0_chooseByOffset 62 = .ok (.return_, 1) := by decide +kernel
set_option maxRecDepth 20000 in
theorem ggX0_chooseByNoises_X5_sum : GoodIn wsX0_chooseByNoises wsX5_sum := goodIn_r _ [7, 8, 9, 18, 19] (by decide +kernel) (by decide +kernel)
set_option maxRecDepth 20000 in
theorem gX0_chooseByNoises_X5_sum : GoodIn wsX0_chooseByNoises (wsV RX0 34 RX5 yX5_sum wsX5_sum) := goodIn_app (goodIn_of _ (by decide +kernel)) ggX0_chooseByNoises_X5_sum
set_option maxRecDepth 20000 in
theorem ggX0_chooseByNoises_X6_noiseBehind : GoodIn wsX0_chooseByNoises wsX6_noiseBehind := goodIn_r _ [12, 13] (by decide +kernel) (by decide +kernel)
set_option maxRecDepth 20000 in
theorem gX0_chooseByNoises_X6_noiseBehind_n49 : GoodIn wsX0_chooseByNoises (wsX6_noiseBehind) := ggX0_chooseByNoises_X6_noiseBehind
set_option maxRecDepth 20000 in
theorem ggX0_chooseByNoises_X5_firstAbove : GoodIn wsX0_chooseByNoises wsX5_firstAbove := goodIn_r _ [17, 8, 9, 18, 19] (by decide +kernel) (by decide +kernel)
set_option maxRecDepth 20000 in
theorem gX0_chooseByNoises_X5_firstAbove : GoodIn wsX0_chooseByNoises (wsV RX0 45 RX5 yX5_firstAbove wsX5_firstAbove) := goodIn_app (goodIn_of _ (by decide +kernel)) ggX0_chooseByNoises_X5_firstAbove
theorem dX0_chooseByNoises_0 : decode cX0_chooseByNoises 0 = .ok (.aload_n 1, 1) := by decide +kernel
theorem dX0_chooseByNoises_1 : decode cX0_chooseByNoises 1 = .ok (.invokevirtual 34, 3) := by decide +kernel
theorem dX0_chooseByNoises_4 : decode cX0_chooseByNoises 4 = .ok (.lstore_n 2, 1) := by decide +kernel
theorem dX0_chooseByNoises_5 : decode cX0_chooseByNoises 5 = .ok (.lload_n 2, 1) := by decide +kernel
theorem dX0_chooseByNoises_6 : decode cX0_chooseByNoises 6 = .ok (.lconst 0, 1) := by decide +kernel
theorem dX0_chooseByNoises_7 : decode cX0_chooseByNoises 7 = .ok (.lcmp, 1) := by decide +kernel
theorem dX0_chooseByNoises_8 : decode cX0_chooseByNoises 8 = .ok (.ifCond .gt 4, 3) := by decide +kernel
theorem dX0_chooseByNoises_11 : decode cX0_chooseByNoises 11 = .ok (.return_, 1) := by decide +kernel
theorem dX0_chooseByNoises_12 : decode cX0_chooseByNoises 12 = .ok (.iconst 0, 1) := by decide +kernel
theorem dX0_chooseByNoises_13 : decode cX0_chooseByNoises 13 = .ok (.istore 4, 2) := by decide +kernel
theorem dX0_chooseByNoises_15 : decode cX0_chooseByNoises 15 = .ok (.iload 4, 2) := by decide +kernel
theorem dX0_chooseByNoises_17 : decode cX0_chooseByNoises 17 = .ok (.aload_n 1, 1) := by decide +kernel
theorem dX0_chooseByNoises_18 : decode cX0_chooseByNoises 18 = .ok (.getfield 42, 3) := by decide +kernel
theorem dX0_chooseByNoises_21 : decode cX0_chooseByNoises 21 = .ok (.if_icmp .ge 54, 3) := by decide +kernel
theorem dX0_chooseByNoises_24 : decode cX0_chooseByNoises 24 = .ok (.iload 4, 2) := by decide +kernel
theorem dX0_chooseByNoises_26 : decode cX0_chooseByNoises 26 = .ok (.aload_n 0, 1) := by decide +kernel
theorem dX0_chooseByNoises_27 : decode cX0_chooseByNoises 27 = .ok (.getfield 9, 3) := by decide +kernel
theorem dX0_chooseByNoises_30 : decode cX0_chooseByNoises 30 = .ok (.arraylength, 1) := by decide +kernel
theorem dX0_chooseByNoises_31 : decode cX0_chooseByNoises 31 = .ok (.if_icmp .ge 44, 3) := by decide +kernel
theorem dX0_chooseByNoises_34 : decode cX0_chooseByNoises 34 = .ok (.aload_n 0, 1) := by decide +kernel
theorem dX0_chooseByNoises_35 : decode cX0_chooseByNoises 35 = .ok (.aload_n 0, 1) := by decide +kernel
theorem dX0_chooseByNoises_36 : decode cX0_chooseByNoises 36 = .ok (.getfield 19, 3) := by decide +kernel
theorem dX0_chooseByNoises_39 : decode cX0_chooseByNoises 39 = .ok (.invokestatic 49, 3) := by decide +kernel
theorem dX0_chooseByNoises_42 : decode cX0_chooseByNoises 42 = .ok (.putfield 19, 3) := by decide +kernel
theorem dX0_chooseByNoises_45 : decode cX0_chooseByNoises 45 = .ok (.aload_n 0, 1) := by decide +kernel
theorem dX0_chooseByNoises_46 : decode cX0_chooseByNoises 46 = .ok (.getfield 9, 3) := by decide +kernel
theorem dX0_chooseByNoises_49 : decode cX0_chooseByNoises 49 = .ok (.iload 4, 2) := by decide +kernel
theorem dX0_chooseByNoises_51 : decode cX0_chooseByNoises 51 = .ok (.aload_n 1, 1) := by decide +kernel
theorem dX0_chooseByNoises_52 : decode cX0_chooseByNoises 52 = .ok (.iload 4, 2) := by decide +kernel
theorem dX0_chooseByNoises_54 : decode cX0_chooseByNoises 54 = .ok (.i2l, 1) := by decide +kernel
theorem dX0_chooseByNoises_55 : decode cX0_chooseByNoises 55 = .ok (.lload_n 2, 1) := by decide +kernel
theorem dX0_chooseByNoises_56 : decode cX0_chooseByNoises 56 = .ok (.lmul, 1) := by decide +kernel
theorem dX0_chooseByNoises_57 : decode cX0_chooseByNoises 57 = .ok (.aload_n 0, 1) := by decide +kernel
theorem dX0_chooseByNoises_58 : decode cX0_chooseByNoises 58 = .ok (.getfield 19, 3) := by decide +kernel
theorem dX0_chooseByNoises_61 : decode cX0_chooseByNoises 61 = .ok (.i2l, 1) := by decide +kernel
theorem dX0_chooseByNoises_62 : decode cX0_chooseByNoises 62 = .ok (.lload_n 2, 1) := by decide +kernel
theorem dX0_chooseByNoises_63 : decode cX0_chooseByNoises 63 = .ok (.lrem, 1) := by decide +kernel
theorem dX0_chooseByNoises_64 : decode cX0_chooseByNoises 64 = .ok (.ladd, 1) := by decide +kernel
theorem dX0_chooseByNoises_65 : decode cX0_chooseByNoises 65 = .ok (.invokevirtual 45, 3) := by decide +kernel
theorem dX0_chooseByNoises_68 : decode cX0_chooseByNoises 68 = .ok (.iastore, 1) := by decide +kernel
theorem dX0_chooseByNoises_69 : decode cX0_chooseByNoises 69 = .ok (.iinc 4 1, 3) := by decide +kernel
theorem dX0_chooseByNoises_72 : decode cX0_chooseByNoises 72 = .ok (.goto (-57), 3) := by decide +kernel
theorem dX0_chooseByNoises_75 : decode cX0_chooseByNoises 75 = .ok (.return_, 1) := by decide +kernel
set_option maxRecDepth 20000 in
theorem ggX0_chooseByShares_X5_sum : GoodIn wsX0_chooseByShares wsX5_sum := goodIn_r _ [7, 8, 9, 19, 20] (by decide +kernel) (by decide +kernel)
set_option maxRecDepth 20000 in
theorem gX0_chooseByShares_X5_sum : GoodIn wsX0_chooseByShares (wsV RX0 34 RX5 yX5_sum wsX5_sum) := goodIn_app (goodIn_of _ (by decide +kernel)) ggX0_chooseByShares_X5_sum
set_option maxRecDepth 20000 in
theorem ggX0_chooseByShares_X5_weightOf : GoodIn wsX0_chooseByShares wsX5_weightOf := goodIn_r _ [13, 9, 19, 20] (by decide +kernel) (by decide +kernel)
set_option maxRecDepth 20000 in
theorem gX0_chooseByShares_X5_weightOf : GoodIn wsX0_chooseByShares (wsV RX0 53 RX5 yX5_weightOf wsX5_weightOf) := goodIn_app (goodIn_of _ (by decide +kernel)) ggX0_chooseByShares_X5_weightOf
set_option maxRecDepth 20000 in
theorem ggX0_chooseByShares_X0_restsAheadOf : GoodIn wsX0_chooseByShares wsX0_restsAheadOf := goodIn_r _ [18, 1, 21, 22, 23] (by decide +kernel) (by decide +kernel)
set_option maxRecDepth 20000 in
theorem gX0_chooseByShares_X0_restsAheadOf : GoodIn wsX0_chooseByShares (wsV RX0 56 RX0 yX0_restsAheadOf wsX0_restsAheadOf) := goodIn_app (goodIn_of _ (by decide +kernel)) ggX0_chooseByShares_X0_restsAheadOf
theorem dX0_chooseByShares_0 : decode cX0_chooseByShares 0 = .ok (.aload_n 1, 1) := by decide +kernel
theorem dX0_chooseByShares_1 : decode cX0_chooseByShares 1 = .ok (.invokevirtual 34, 3) := by decide +kernel
theorem dX0_chooseByShares_4 : decode cX0_chooseByShares 4 = .ok (.lstore_n 2, 1) := by decide +kernel
theorem dX0_chooseByShares_5 : decode cX0_chooseByShares 5 = .ok (.lload_n 2, 1) := by decide +kernel
theorem dX0_chooseByShares_6 : decode cX0_chooseByShares 6 = .ok (.lconst 0, 1) := by decide +kernel
theorem dX0_chooseByShares_7 : decode cX0_chooseByShares 7 = .ok (.lcmp, 1) := by decide +kernel
theorem dX0_chooseByShares_8 : decode cX0_chooseByShares 8 = .ok (.ifCond .gt 4, 3) := by decide +kernel
theorem dX0_chooseByShares_11 : decode cX0_chooseByShares 11 = .ok (.return_, 1) := by decide +kernel
theorem dX0_chooseByShares_12 : decode cX0_chooseByShares 12 = .ok (.aload_n 1, 1) := by decide +kernel
theorem dX0_chooseByShares_13 : decode cX0_chooseByShares 13 = .ok (.getfield 42, 3) := by decide +kernel
theorem dX0_chooseByShares_16 : decode cX0_chooseByShares 16 = .ok (.i2l, 1) := by decide +kernel
theorem dX0_chooseByShares_17 : decode cX0_chooseByShares 17 = .ok (.lstore 4, 2) := by decide +kernel
theorem dX0_chooseByShares_19 : decode cX0_chooseByShares 19 = .ok (.lload 4, 2) := by decide +kernel
theorem dX0_chooseByShares_21 : decode cX0_chooseByShares 21 = .ok (.lstore 6, 2) := by decide +kernel
theorem dX0_chooseByShares_23 : decode cX0_chooseByShares 23 = .ok (.iconst 0, 1) := by decide +kernel
theorem dX0_chooseByShares_24 : decode cX0_chooseByShares 24 = .ok (.istore 8, 2) := by decide +kernel
theorem dX0_chooseByShares_26 : decode cX0_chooseByShares 26 = .ok (.iload 8, 2) := by decide +kernel
theorem dX0_chooseByShares_28 : decode cX0_chooseByShares 28 = .ok (.i2l, 1) := by decide +kernel
theorem dX0_chooseByShares_29 : decode cX0_chooseByShares 29 = .ok (.lload 4, 2) := by decide +kernel
theorem dX0_chooseByShares_31 : decode cX0_chooseByShares 31 = .ok (.lcmp, 1) := by decide +kernel
theorem dX0_chooseByShares_32 : decode cX0_chooseByShares 32 = .ok (.ifCond .ge 51, 3) := by decide +kernel
theorem dX0_chooseByShares_35 : decode cX0_chooseByShares 35 = .ok (.iload 8, 2) := by decide +kernel
theorem dX0_chooseByShares_37 : decode cX0_chooseByShares 37 = .ok (.aload_n 0, 1) := by decide +kernel
theorem dX0_chooseByShares_38 : decode cX0_chooseByShares 38 = .ok (.getfield 15, 3) := by decide +kernel
theorem dX0_chooseByShares_41 : decode cX0_chooseByShares 41 = .ok (.arraylength, 1) := by decide +kernel
theorem dX0_chooseByShares_42 : decode cX0_chooseByShares 42 = .ok (.if_icmp .ge 41, 3) := by decide +kernel
theorem dX0_chooseByShares_45 : decode cX0_chooseByShares 45 = .ok (.lload 4, 2) := by decide +kernel
theorem dX0_chooseByShares_47 : decode cX0_chooseByShares 47 = .ok (.aload_n 1, 1) := by decide +kernel
theorem dX0_chooseByShares_48 : decode cX0_chooseByShares 48 = .ok (.iload 8, 2) := by decide +kernel
theorem dX0_chooseByShares_50 : decode cX0_chooseByShares 50 = .ok (.invokevirtual 53, 3) := by decide +kernel
theorem dX0_chooseByShares_53 : decode cX0_chooseByShares 53 = .ok (.i2l, 1) := by decide +kernel
theorem dX0_chooseByShares_54 : decode cX0_chooseByShares 54 = .ok (.lmul, 1) := by decide +kernel
theorem dX0_chooseByShares_55 : decode cX0_chooseByShares 55 = .ok (.lstore 9, 2) := by decide +kernel
theorem dX0_chooseByShares_57 : decode cX0_chooseByShares 57 = .ok (.lload 6, 2) := by decide +kernel
theorem dX0_chooseByShares_59 : decode cX0_chooseByShares 59 = .ok (.lload 9, 2) := by decide +kernel
theorem dX0_chooseByShares_61 : decode cX0_chooseByShares 61 = .ok (.lload_n 2, 1) := by decide +kernel
theorem dX0_chooseByShares_62 : decode cX0_chooseByShares 62 = .ok (.ldiv, 1) := by decide +kernel
theorem dX0_chooseByShares_63 : decode cX0_chooseByShares 63 = .ok (.lsub, 1) := by decide +kernel
theorem dX0_chooseByShares_64 : decode cX0_chooseByShares 64 = .ok (.lstore 6, 2) := by decide +kernel
theorem dX0_chooseByShares_66 : decode cX0_chooseByShares 66 = .ok (.aload_n 0, 1) := by decide +kernel
theorem dX0_chooseByShares_67 : decode cX0_chooseByShares 67 = .ok (.getfield 15, 3) := by decide +kernel
theorem dX0_chooseByShares_70 : decode cX0_chooseByShares 70 = .ok (.iload 8, 2) := by decide +kernel
theorem dX0_chooseByShares_72 : decode cX0_chooseByShares 72 = .ok (.lload 9, 2) := by decide +kernel
theorem dX0_chooseByShares_74 : decode cX0_chooseByShares 74 = .ok (.lload_n 2, 1) := by decide +kernel
theorem dX0_chooseByShares_75 : decode cX0_chooseByShares 75 = .ok (.lrem, 1) := by decide +kernel
theorem dX0_chooseByShares_76 : decode cX0_chooseByShares 76 = .ok (.lastore, 1) := by decide +kernel
theorem dX0_chooseByShares_77 : decode cX0_chooseByShares 77 = .ok (.iinc 8 1, 3) := by decide +kernel
theorem dX0_chooseByShares_80 : decode cX0_chooseByShares 80 = .ok (.goto (-54), 3) := by decide +kernel
theorem dX0_chooseByShares_83 : decode cX0_chooseByShares 83 = .ok (.iconst 0, 1) := by decide +kernel
theorem dX0_chooseByShares_84 : decode cX0_chooseByShares 84 = .ok (.istore 8, 2) := by decide +kernel
theorem dX0_chooseByShares_86 : decode cX0_chooseByShares 86 = .ok (.iconst 0, 1) := by decide +kernel
theorem dX0_chooseByShares_87 : decode cX0_chooseByShares 87 = .ok (.istore 9, 2) := by decide +kernel
theorem dX0_chooseByShares_89 : decode cX0_chooseByShares 89 = .ok (.iload 9, 2) := by decide +kernel
theorem dX0_chooseByShares_91 : decode cX0_chooseByShares 91 = .ok (.i2l, 1) := by decide +kernel
theorem dX0_chooseByShares_92 : decode cX0_chooseByShares 92 = .ok (.lload 4, 2) := by decide +kernel
theorem dX0_chooseByShares_94 : decode cX0_chooseByShares 94 = .ok (.lcmp, 1) := by decide +kernel
theorem dX0_chooseByShares_95 : decode cX0_chooseByShares 95 = .ok (.ifCond .ge 94, 3) := by decide +kernel
theorem dX0_chooseByShares_98 : decode cX0_chooseByShares 98 = .ok (.iload 9, 2) := by decide +kernel
theorem dX0_chooseByShares_100 : decode cX0_chooseByShares 100 = .ok (.aload_n 0, 1) := by decide +kernel
theorem dX0_chooseByShares_101 : decode cX0_chooseByShares 101 = .ok (.getfield 15, 3) := by decide +kernel
theorem dX0_chooseByShares_104 : decode cX0_chooseByShares 104 = .ok (.arraylength, 1) := by decide +kernel
theorem dX0_chooseByShares_105 : decode cX0_chooseByShares 105 = .ok (.if_icmp .ge 84, 3) := by decide +kernel
theorem dX0_chooseByShares_108 : decode cX0_chooseByShares 108 = .ok (.lload 4, 2) := by decide +kernel
theorem dX0_chooseByShares_110 : decode cX0_chooseByShares 110 = .ok (.aload_n 1, 1) := by decide +kernel
theorem dX0_chooseByShares_111 : decode cX0_chooseByShares 111 = .ok (.iload 9, 2) := by decide +kernel
theorem dX0_chooseByShares_113 : decode cX0_chooseByShares 113 = .ok (.invokevirtual 53, 3) := by decide +kernel
theorem dX0_chooseByShares_116 : decode cX0_chooseByShares 116 = .ok (.i2l, 1) := by decide +kernel
theorem dX0_chooseByShares_117 : decode cX0_chooseByShares 117 = .ok (.lmul, 1) := by decide +kernel
theorem dX0_chooseByShares_118 : decode cX0_chooseByShares 118 = .ok (.lload_n 2, 1) := by decide +kernel
theorem dX0_chooseByShares_119 : decode cX0_chooseByShares 119 = .ok (.ldiv, 1) := by decide +kernel
theorem dX0_chooseByShares_120 : decode cX0_chooseByShares 120 = .ok (.lstore 10, 2) := by decide +kernel
theorem dX0_chooseByShares_122 : decode cX0_chooseByShares 122 = .ok (.aload_n 0, 1) := by decide +kernel
theorem dX0_chooseByShares_123 : decode cX0_chooseByShares 123 = .ok (.iload 9, 2) := by decide +kernel
theorem dX0_chooseByShares_125 : decode cX0_chooseByShares 125 = .ok (.lload 4, 2) := by decide +kernel
theorem dX0_chooseByShares_127 : decode cX0_chooseByShares 127 = .ok (.invokevirtual 56, 3) := by decide +kernel
theorem dX0_chooseByShares_130 : decode cX0_chooseByShares 130 = .ok (.i2l, 1) := by decide +kernel
theorem dX0_chooseByShares_131 : decode cX0_chooseByShares 131 = .ok (.lload 6, 2) := by decide +kernel
theorem dX0_chooseByShares_133 : decode cX0_chooseByShares 133 = .ok (.lcmp, 1) := by decide +kernel
theorem dX0_chooseByShares_134 : decode cX0_chooseByShares 134 = .ok (.ifCond .ge 9, 3) := by decide +kernel
theorem dX0_chooseByShares_137 : decode cX0_chooseByShares 137 = .ok (.lload 10, 2) := by decide +kernel
theorem dX0_chooseByShares_139 : decode cX0_chooseByShares 139 = .ok (.lconst 1, 1) := by decide +kernel
theorem dX0_chooseByShares_140 : decode cX0_chooseByShares 140 = .ok (.ladd, 1) := by decide +kernel
theorem dX0_chooseByShares_141 : decode cX0_chooseByShares 141 = .ok (.lstore 10, 2) := by decide +kernel
theorem dX0_chooseByShares_143 : decode cX0_chooseByShares 143 = .ok (.iconst 0, 1) := by decide +kernel
theorem dX0_chooseByShares_144 : decode cX0_chooseByShares 144 = .ok (.istore 12, 2) := by decide +kernel
theorem dX0_chooseByShares_146 : decode cX0_chooseByShares 146 = .ok (.iload 12, 2) := by decide +kernel
theorem dX0_chooseByShares_148 : decode cX0_chooseByShares 148 = .ok (.i2l, 1) := by decide +kernel
theorem dX0_chooseByShares_149 : decode cX0_chooseByShares 149 = .ok (.lload 10, 2) := by decide +kernel
theorem dX0_chooseByShares_151 : decode cX0_chooseByShares 151 = .ok (.lcmp, 1) := by decide +kernel
theorem dX0_chooseByShares_152 : decode cX0_chooseByShares 152 = .ok (.ifCond .ge 31, 3) := by decide +kernel
theorem dX0_chooseByShares_155 : decode cX0_chooseByShares 155 = .ok (.iload 8, 2) := by decide +kernel
theorem dX0_chooseByShares_157 : decode cX0_chooseByShares 157 = .ok (.aload_n 0, 1) := by decide +kernel
theorem dX0_chooseByShares_158 : decode cX0_chooseByShares 158 = .ok (.getfield 9, 3) := by decide +kernel
theorem dX0_chooseByShares_161 : decode cX0_chooseByShares 161 = .ok (.arraylength, 1) := by decide +kernel
theorem dX0_chooseByShares_162 : decode cX0_chooseByShares 162 = .ok (.if_icmp .ge 21, 3) := by decide +kernel
theorem dX0_chooseByShares_165 : decode cX0_chooseByShares 165 = .ok (.aload_n 0, 1) := by decide +kernel
theorem dX0_chooseByShares_166 : decode cX0_chooseByShares 166 = .ok (.getfield 9, 3) := by decide +kernel
theorem dX0_chooseByShares_169 : decode cX0_chooseByShares 169 = .ok (.iload 8, 2) := by decide +kernel
theorem dX0_chooseByShares_171 : decode cX0_chooseByShares 171 = .ok (.iload 9, 2) := by decide +kernel
theorem dX0_chooseByShares_173 : decode cX0_chooseByShares 173 = .ok (.iastore, 1) := by decide +kernel
theorem dX0_chooseByShares_174 : decode cX0_chooseByShares 174 = .ok (.iinc 8 1, 3) := by decide +kernel
theorem dX0_chooseByShares_177 : decode cX0_chooseByShares 177 = .ok (.iinc 12 1, 3) := by decide +kernel
theorem dX0_chooseByShares_180 : decode cX0_chooseByShares 180 = .ok (.goto (-34), 3) := by decide +kernel
theorem dX0_chooseByShares_183 : decode cX0_chooseByShares 183 = .ok (.iinc 9 1, 3) := by decide +kernel
theorem dX0_chooseByShares_186 : decode cX0_chooseByShares 186 = .ok (.goto (-97), 3) := by decide +kernel
theorem dX0_chooseByShares_189 : decode cX0_chooseByShares 189 = .ok (.return_, 1) := by decide +kernel
theorem dX0_restsAheadOf_0 : decode cX0_restsAheadOf 0 = .ok (.iconst 0, 1) := by decide +kernel
theorem dX0_restsAheadOf_1 : decode cX0_restsAheadOf 1 = .ok (.istore 4, 2) := by decide +kernel
theorem dX0_restsAheadOf_3 : decode cX0_restsAheadOf 3 = .ok (.iload_n 1, 1) := by decide +kernel
theorem dX0_restsAheadOf_4 : decode cX0_restsAheadOf 4 = .ok (.ifCond .lt 12, 3) := by decide +kernel
theorem dX0_restsAheadOf_7 : decode cX0_restsAheadOf 7 = .ok (.iload_n 1, 1) := by decide +kernel
theorem dX0_restsAheadOf_8 : decode cX0_restsAheadOf 8 = .ok (.aload_n 0, 1) := by decide +kernel
theorem dX0_restsAheadOf_9 : decode cX0_restsAheadOf 9 = .ok (.getfield 15, 3) := by decide +kernel
theorem dX0_restsAheadOf_12 : decode cX0_restsAheadOf 12 = .ok (.arraylength, 1) := by decide +kernel
theorem dX0_restsAheadOf_13 : decode cX0_restsAheadOf 13 = .ok (.if_icmp .lt 6, 3) := by decide +kernel
theorem dX0_restsAheadOf_16 : decode cX0_restsAheadOf 16 = .ok (.iload 4, 2) := by decide +kernel
theorem dX0_restsAheadOf_18 : decode cX0_restsAheadOf 18 = .ok (.ireturn, 1) := by decide +kernel
theorem dX0_restsAheadOf_19 : decode cX0_restsAheadOf 19 = .ok (.aload_n 0, 1) := by decide +kernel
theorem dX0_restsAheadOf_20 : decode cX0_restsAheadOf 20 = .ok (.getfield 15, 3) := by decide +kernel
theorem dX0_restsAheadOf_23 : decode cX0_restsAheadOf 23 = .ok (.iload_n 1, 1) := by decide +kernel
theorem dX0_restsAheadOf_24 : decode cX0_restsAheadOf 24 = .ok (.laload, 1) := by decide +kernel
theorem dX0_restsAheadOf_25 : decode cX0_restsAheadOf 25 = .ok (.lstore 5, 2) := by decide +kernel
theorem dX0_restsAheadOf_27 : decode cX0_restsAheadOf 27 = .ok (.iconst 0, 1) := by decide +kernel
theorem dX0_restsAheadOf_28 : decode cX0_restsAheadOf 28 = .ok (.istore 7, 2) := by decide +kernel
theorem dX0_restsAheadOf_30 : decode cX0_restsAheadOf 30 = .ok (.iload 7, 2) := by decide +kernel
theorem dX0_restsAheadOf_32 : decode cX0_restsAheadOf 32 = .ok (.i2l, 1) := by decide +kernel
theorem dX0_restsAheadOf_33 : decode cX0_restsAheadOf 33 = .ok (.lload_n 2, 1) := by decide +kernel
theorem dX0_restsAheadOf_34 : decode cX0_restsAheadOf 34 = .ok (.lcmp, 1) := by decide +kernel
theorem dX0_restsAheadOf_35 : decode cX0_restsAheadOf 35 = .ok (.ifCond .ge 54, 3) := by decide +kernel
theorem dX0_restsAheadOf_38 : decode cX0_restsAheadOf 38 = .ok (.iload 7, 2) := by decide +kernel
theorem dX0_restsAheadOf_40 : decode cX0_restsAheadOf 40 = .ok (.aload_n 0, 1) := by decide +kernel
theorem dX0_restsAheadOf_41 : decode cX0_restsAheadOf 41 = .ok (.getfield 15, 3) := by decide +kernel
theorem dX0_restsAheadOf_44 : decode cX0_restsAheadOf 44 = .ok (.arraylength, 1) := by decide +kernel
theorem dX0_restsAheadOf_45 : decode cX0_restsAheadOf 45 = .ok (.if_icmp .ge 44, 3) := by decide +kernel
theorem dX0_restsAheadOf_48 : decode cX0_restsAheadOf 48 = .ok (.aload_n 0, 1) := by decide +kernel
theorem dX0_restsAheadOf_49 : decode cX0_restsAheadOf 49 = .ok (.getfield 15, 3) := by decide +kernel
theorem dX0_restsAheadOf_52 : decode cX0_restsAheadOf 52 = .ok (.iload 7, 2) := by decide +kernel
theorem dX0_restsAheadOf_54 : decode cX0_restsAheadOf 54 = .ok (.laload, 1) := by decide +kernel
theorem dX0_restsAheadOf_55 : decode cX0_restsAheadOf 55 = .ok (.lload 5, 2) := by decide +kernel
theorem dX0_restsAheadOf_57 : decode cX0_restsAheadOf 57 = .ok (.lcmp, 1) := by decide +kernel
theorem dX0_restsAheadOf_58 : decode cX0_restsAheadOf 58 = .ok (.ifCond .gt 22, 3) := by decide +kernel
theorem dX0_restsAheadOf_61 : decode cX0_restsAheadOf 61 = .ok (.aload_n 0, 1) := by decide +kernel
theorem dX0_restsAheadOf_62 : decode cX0_restsAheadOf 62 = .ok (.getfield 15, 3) := by decide +kernel
theorem dX0_restsAheadOf_65 : decode cX0_restsAheadOf 65 = .ok (.iload 7, 2) := by decide +kernel
theorem dX0_restsAheadOf_67 : decode cX0_restsAheadOf 67 = .ok (.laload, 1) := by decide +kernel
theorem dX0_restsAheadOf_68 : decode cX0_restsAheadOf 68 = .ok (.lload 5, 2) := by decide +kernel
theorem dX0_restsAheadOf_70 : decode cX0_restsAheadOf 70 = .ok (.lcmp, 1) := by decide +kernel
theorem dX0_restsAheadOf_71 : decode cX0_restsAheadOf 71 = .ok (.ifCond .ne 12, 3) := by decide +kernel
theorem dX0_restsAheadOf_74 : decode cX0_restsAheadOf 74 = .ok (.iload 7, 2) := by decide +kernel
theorem dX0_restsAheadOf_76 : decode cX0_restsAheadOf 76 = .ok (.iload_n 1, 1) := by decide +kernel
theorem dX0_restsAheadOf_77 : decode cX0_restsAheadOf 77 = .ok (.if_icmp .ge 6, 3) := by decide +kernel
theorem dX0_restsAheadOf_80 : decode cX0_restsAheadOf 80 = .ok (.iinc 4 1, 3) := by decide +kernel
theorem dX0_restsAheadOf_83 : decode cX0_restsAheadOf 83 = .ok (.iinc 7 1, 3) := by decide +kernel
theorem dX0_restsAheadOf_86 : decode cX0_restsAheadOf 86 = .ok (.goto (-56), 3) := by decide +kernel
theorem dX0_restsAheadOf_89 : decode cX0_restsAheadOf 89 = .ok (.iload 4, 2) := by decide +kernel
theorem dX0_restsAheadOf_91 : decode cX0_restsAheadOf 91 = .ok (.ireturn, 1) := by decide +kernel
set_option maxRecDepth 20000 in
theorem ggX1_init_X2_init : GoodIn wsX1_init wsX2_init := goodIn_r _ [17, 18, 2, 3, 19, 20, 21, 22, 23, 24, 25] (by decide +kernel) (by decide +kernel)
set_option maxRecDepth 20000 in
theorem gX1_init_X2_init : GoodIn wsX1_init (wsX2_init) := ggX1_init_X2_init
theorem dX1_init_0 : decode cX1_init 0 = .ok (.aload_n 0, 1) := by decide +kernel
theorem dX1_init_1 : decode cX1_init 1 = .ok (.invokespecial 3, 3) := by decide +kernel
theorem dX1_init_4 : decode cX1_init 4 = .ok (.aload_n 0, 1) := by decide +kernel
theorem dX1_init_5 : decode cX1_init 5 = .ok (.new 9, 3) := by decide +kernel
theorem dX1_init_8 : decode cX1_init 8 = .ok (.dup, 1) := by decide +kernel
theorem dX1_init_9 : decode cX1_init 9 = .ok (.sipush 240, 3) := by decide +kernel
theorem dX1_init_12 : decode cX1_init 12 = .ok (.invokespecial 11, 3) := by decide +kernel
theorem dX1_init_15 : decode cX1_init 15 = .ok (.putfield 14, 3) := by decide +kernel
theorem dX1_init_18 : decode cX1_init 18 = .ok (.aload_n 0, 1) := by decide +kernel
theorem dX1_init_19 : decode cX1_init 19 = .ok (.new 9, 3) := by decide +kernel
theorem dX1_init_22 : decode cX1_init 22 = .ok (.dup, 1) := by decide +kernel
theorem dX1_init_23 : decode cX1_init 23 = .ok (.sipush 240, 3) := by decide +kernel
theorem dX1_init_26 : decode cX1_init 26 = .ok (.invokespecial 11, 3) := by decide +kernel
theorem dX1_init_29 : decode cX1_init 29 = .ok (.putfield 20, 3) := by decide +kernel
theorem dX1_init_32 : decode cX1_init 32 = .ok (.aload_n 0, 1) := by decide +kernel
theorem dX1_init_33 : decode cX1_init 33 = .ok (.new 9, 3) := by decide +kernel
theorem dX1_init_36 : decode cX1_init 36 = .ok (.dup, 1) := by decide +kernel
theorem dX1_init_37 : decode cX1_init 37 = .ok (.bipush 20, 2) := by decide +kernel
theorem dX1_init_39 : decode cX1_init 39 = .ok (.invokespecial 11, 3) := by decide +kernel
theorem dX1_init_42 : decode cX1_init 42 = .ok (.putfield 23, 3) := by decide +kernel
theorem dX1_init_45 : decode cX1_init 45 = .ok (.aload_n 0, 1) := by decide +kernel
theorem dX1_init_46 : decode cX1_init 46 = .ok (.new 9, 3) := by decide +kernel
theorem dX1_init_49 : decode cX1_init 49 = .ok (.dup, 1) := by decide +kernel
theorem dX1_init_50 : decode cX1_init 50 = .ok (.bipush 20, 2) := by decide +kernel
theorem dX1_init_52 : decode cX1_init 52 = .ok (.invokespecial 11, 3) := by decide +kernel
theorem dX1_init_55 : decode cX1_init 55 = .ok (.putfield 26, 3) := by decide +kernel
theorem dX1_init_58 : decode cX1_init 58 = .ok (.aload_n 0, 1) := by decide +kernel
theorem dX1_init_59 : decode cX1_init 59 = .ok (.new 9, 3) := by decide +kernel
theorem dX1_init_62 : decode cX1_init 62 = .ok (.dup, 1) := by decide +kernel
theorem dX1_init_63 : decode cX1_init 63 = .ok (.bipush 20, 2) := by decide +kernel
theorem dX1_init_65 : decode cX1_init 65 = .ok (.invokespecial 11, 3) := by decide +kernel
theorem dX1_init_68 : decode cX1_init 68 = .ok (.putfield 29, 3) := by decide +kernel
theorem dX1_init_71 : decode cX1_init 71 = .ok (.aload_n 0, 1) := by decide +kernel
theorem dX1_init_72 : decode cX1_init 72 = .ok (.new 9, 3) := by decide +kernel
theorem dX1_init_75 : decode cX1_init 75 = .ok (.dup, 1) := by decide +kernel
theorem dX1_init_76 : decode cX1_init 76 = .ok (.bipush 20, 2) := by decide +kernel
theorem dX1_init_78 : decode cX1_init 78 = .ok (.invokespecial 11, 3) := by decide +kernel
theorem dX1_init_81 : decode cX1_init 81 = .ok (.putfield 32, 3) := by decide +kernel
theorem dX1_init_84 : decode cX1_init 84 = .ok (.aload_n 0, 1) := by decide +kernel
theorem dX1_init_85 : decode cX1_init 85 = .ok (.iconst 0, 1) := by decide +kernel
theorem dX1_init_86 : decode cX1_init 86 = .ok (.putfield 35, 3) := by decide +kernel
theorem dX1_init_89 : decode cX1_init 89 = .ok (.aload_n 0, 1) := by decide +kernel
theorem dX1_init_90 : decode cX1_init 90 = .ok (.iconst 0, 1) := by decide +kernel
theorem dX1_init_91 : decode cX1_init 91 = .ok (.putfield 39, 3) := by decide +kernel
theorem dX1_init_94 : decode cX1_init 94 = .ok (.return_, 1) := by decide +kernel
set_option maxRecDepth 20000 in
theorem ggX1_copyLineage_X2_copyRow : GoodIn wsX1_copyLineage wsX2_copyRow := goodIn_r _ [13, 14, 23] (by decide +kernel) (by decide +kernel)
set_option maxRecDepth 20000 in
theorem gX1_copyLineage_X2_copyRow : GoodIn wsX1_copyLineage (wsV RX1 42 RX2 yX2_copyRow wsX2_copyRow) := goodIn_app (goodIn_of _ (by decide +kernel)) ggX1_copyLineage_X2_copyRow
theorem dX1_copyLineage_0 : decode cX1_copyLineage 0 = .ok (.aload_n 0, 1) := by decide +kernel
theorem dX1_copyLineage_1 : decode cX1_copyLineage 1 = .ok (.getfield 14, 3) := by decide +kernel
theorem dX1_copyLineage_4 : decode cX1_copyLineage 4 = .ok (.aload_n 1, 1) := by decide +kernel
theorem dX1_copyLineage_5 : decode cX1_copyLineage 5 = .ok (.getfield 14, 3) := by decide +kernel
theorem dX1_copyLineage_8 : decode cX1_copyLineage 8 = .ok (.invokevirtual 42, 3) := by decide +kernel
theorem dX1_copyLineage_11 : decode cX1_copyLineage 11 = .ok (.aload_n 0, 1) := by decide +kernel
theorem dX1_copyLineage_12 : decode cX1_copyLineage 12 = .ok (.getfield 20, 3) := by decide +kernel
theorem dX1_copyLineage_15 : decode cX1_copyLineage 15 = .ok (.aload_n 1, 1) := by decide +kernel
theorem dX1_copyLineage_16 : decode cX1_copyLineage 16 = .ok (.getfield 20, 3) := by decide +kernel
theorem dX1_copyLineage_19 : decode cX1_copyLineage 19 = .ok (.invokevirtual 42, 3) := by decide +kernel
theorem dX1_copyLineage_22 : decode cX1_copyLineage 22 = .ok (.aload_n 0, 1) := by decide +kernel
theorem dX1_copyLineage_23 : decode cX1_copyLineage 23 = .ok (.getfield 23, 3) := by decide +kernel
theorem dX1_copyLineage_26 : decode cX1_copyLineage 26 = .ok (.aload_n 1, 1) := by decide +kernel
theorem dX1_copyLineage_27 : decode cX1_copyLineage 27 = .ok (.getfield 23, 3) := by decide +kernel
theorem dX1_copyLineage_30 : decode cX1_copyLineage 30 = .ok (.invokevirtual 42, 3) := by decide +kernel
theorem dX1_copyLineage_33 : decode cX1_copyLineage 33 = .ok (.aload_n 0, 1) := by decide +kernel
theorem dX1_copyLineage_34 : decode cX1_copyLineage 34 = .ok (.getfield 26, 3) := by decide +kernel
theorem dX1_copyLineage_37 : decode cX1_copyLineage 37 = .ok (.aload_n 1, 1) := by decide +kernel
theorem dX1_copyLineage_38 : decode cX1_copyLineage 38 = .ok (.getfield 26, 3) := by decide +kernel
theorem dX1_copyLineage_41 : decode cX1_copyLineage 41 = .ok (.invokevirtual 42, 3) := by decide +kernel
theorem dX1_copyLineage_44 : decode cX1_copyLineage 44 = .ok (.aload_n 0, 1) := by decide +kernel
theorem dX1_copyLineage_45 : decode cX1_copyLineage 45 = .ok (.getfield 29, 3) := by decide +kernel
theorem dX1_copyLineage_48 : decode cX1_copyLineage 48 = .ok (.aload_n 1, 1) := by decide +kernel
theorem dX1_copyLineage_49 : decode cX1_copyLineage 49 = .ok (.getfield 29, 3) := by decide +kernel
theorem dX1_copyLineage_52 : decode cX1_copyLineage 52 = .ok (.invokevirtual 42, 3) := by decide +kernel
theorem dX1_copyLineage_55 : decode cX1_copyLineage 55 = .ok (.aload_n 0, 1) := by decide +kernel
theorem dX1_copyLineage_56 : decode cX1_copyLineage 56 = .ok (.getfield 32, 3) := by decide +kernel
theorem dX1_copyLineage_59 : decode cX1_copyLineage 59 = .ok (.aload_n 1, 1) := by decide +kernel
theorem dX1_copyLineage_60 : decode cX1_copyLineage 60 = .ok (.getfield 32, 3) := by decide +kernel
theorem dX1_copyLineage_63 : decode cX1_copyLineage 63 = .ok (.invokevirtual 42, 3) := by decide +kernel
theorem dX1_copyLineage_66 : decode cX1_copyLineage 66 = .ok (.aload_n 0, 1) := by decide +kernel
theorem dX1_copyLineage_67 : decode cX1_copyLineage 67 = .ok (.aload_n 1, 1) := by decide +kernel
theorem dX1_copyLineage_68 : decode cX1_copyLineage 68 = .ok (.getfield 35, 3) := by decide +kernel
theorem dX1_copyLineage_71 : decode cX1_copyLineage 71 = .ok (.putfield 35, 3) := by decide +kernel
theorem dX1_copyLineage_74 : decode cX1_copyLineage 74 = .ok (.aload_n 0, 1) := by decide +kernel
theorem dX1_copyLineage_75 : decode cX1_copyLineage 75 = .ok (.aload_n 1, 1) := by decide +kernel
theorem dX1_copyLineage_76 : decode cX1_copyLineage 76 = .ok (.getfield 39, 3) := by decide +kernel
theorem dX1_copyLineage_79 : decode cX1_copyLineage 79 = .ok (.putfield 39, 3) := by decide +kernel
theorem dX1_copyLineage_82 : decode cX1_copyLineage 82 = .ok (.return_, 1) := by decide +kernel
set_option maxRecDepth 20000 in
theorem ggX1_startWith_X2_put : GoodIn wsX1_startWith wsX2_put := goodIn_r _ [9, 10, 29] (by decide +kernel) (by decide +kernel)
set_option maxRecDepth 20000 in
theorem gX1_startWith_X2_put : GoodIn wsX1_startWith (wsV RX1 46 RX2 yX2_put wsX2_put) := goodIn_app (goodIn_of _ (by decide +kernel)) ggX1_startWith_X2_put
set_option maxRecDepth 20000 in
theorem ggX1_startWith_X6_nearestPlace : GoodIn wsX1_startWith wsX6_nearestPlace := goodIn_r _ [13, 14, 15, 16, 17, 18, 19, 20] (by decide +kernel) (by decide +kernel)
set_option maxRecDepth 20000 in
theorem gX1_startWith_X6_nearestPlace_n50 : GoodIn wsX1_startWith (wsX6_nearestPlace) := ggX1_startWith_X6_nearestPlace
theorem dX1_startWith_0 : decode cX1_startWith 0 = .ok (.aload_n 0, 1) := by decide +kernel
theorem dX1_startWith_1 : decode cX1_startWith 1 = .ok (.iload_n 1, 1) := by decide +kernel
theorem dX1_startWith_2 : decode cX1_startWith 2 = .ok (.putfield 35, 3) := by decide +kernel
theorem dX1_startWith_5 : decode cX1_startWith 5 = .ok (.aload_n 0, 1) := by decide +kernel
theorem dX1_startWith_6 : decode cX1_startWith 6 = .ok (.iconst 1, 1) := by decide +kernel
theorem dX1_startWith_7 : decode cX1_startWith 7 = .ok (.putfield 39, 3) := by decide +kernel
theorem dX1_startWith_10 : decode cX1_startWith 10 = .ok (.aload_n 0, 1) := by decide +kernel
theorem dX1_startWith_11 : decode cX1_startWith 11 = .ok (.getfield 23, 3) := by decide +kernel
theorem dX1_startWith_14 : decode cX1_startWith 14 = .ok (.iconst 0, 1) := by decide +kernel
theorem dX1_startWith_15 : decode cX1_startWith 15 = .ok (.iconst 0, 1) := by decide +kernel
theorem dX1_startWith_16 : decode cX1_startWith 16 = .ok (.invokevirtual 46, 3) := by decide +kernel
theorem dX1_startWith_19 : decode cX1_startWith 19 = .ok (.iconst 0, 1) := by decide +kernel
theorem dX1_startWith_20 : decode cX1_startWith 20 = .ok (.istore 4, 2) := by decide +kernel
theorem dX1_startWith_22 : decode cX1_startWith 22 = .ok (.iload 4, 2) := by decide +kernel
theorem dX1_startWith_24 : decode cX1_startWith 24 = .ok (.iload_n 1, 1) := by decide +kernel
theorem dX1_startWith_25 : decode cX1_startWith 25 = .ok (.if_icmp .ge 34, 3) := by decide +kernel
theorem dX1_startWith_28 : decode cX1_startWith 28 = .ok (.iload 4, 2) := by decide +kernel
theorem dX1_startWith_30 : decode cX1_startWith 30 = .ok (.bipush 12, 2) := by decide +kernel
theorem dX1_startWith_32 : decode cX1_startWith 32 = .ok (.if_icmp .ge 27, 3) := by decide +kernel
theorem dX1_startWith_35 : decode cX1_startWith 35 = .ok (.aload_n 0, 1) := by decide +kernel
theorem dX1_startWith_36 : decode cX1_startWith 36 = .ok (.getfield 14, 3) := by decide +kernel
theorem dX1_startWith_39 : decode cX1_startWith 39 = .ok (.iload 4, 2) := by decide +kernel
theorem dX1_startWith_41 : decode cX1_startWith 41 = .ok (.iload_n 2, 1) := by decide +kernel
theorem dX1_startWith_42 : decode cX1_startWith 42 = .ok (.iload 4, 2) := by decide +kernel
theorem dX1_startWith_44 : decode cX1_startWith 44 = .ok (.iload_n 3, 1) := by decide +kernel
theorem dX1_startWith_45 : decode cX1_startWith 45 = .ok (.imul, 1) := by decide +kernel
theorem dX1_startWith_46 : decode cX1_startWith 46 = .ok (.iadd, 1) := by decide +kernel
theorem dX1_startWith_47 : decode cX1_startWith 47 = .ok (.invokestatic 50, 3) := by decide +kernel
theorem dX1_startWith_50 : decode cX1_startWith 50 = .ok (.invokevirtual 46, 3) := by decide +kernel
theorem dX1_startWith_53 : decode cX1_startWith 53 = .ok (.iinc 4 1, 3) := by decide +kernel
theorem dX1_startWith_56 : decode cX1_startWith 56 = .ok (.goto (-34), 3) := by decide +kernel
theorem dX1_startWith_59 : decode cX1_startWith 59 = .ok (.return_, 1) := by decide +kernel
set_option maxRecDepth 20000 in
theorem ggX1_addMoved_X2_put : GoodIn wsX1_addMoved wsX2_put := goodIn_r _ [9, 10, 19] (by decide +kernel) (by decide +kernel)
set_option maxRecDepth 20000 in
theorem gX1_addMoved_X2_put : GoodIn wsX1_addMoved (wsV RX1 46 RX2 yX2_put wsX2_put) := goodIn_app (goodIn_of _ (by decide +kernel)) ggX1_addMoved_X2_put
theorem dX1_addMoved_0 : decode cX1_addMoved 0 = .ok (.aload_n 0, 1) := by decide +kernel
theorem dX1_addMoved_1 : decode cX1_addMoved 1 = .ok (.getfield 23, 3) := by decide +kernel
theorem dX1_addMoved_4 : decode cX1_addMoved 4 = .ok (.aload_n 0, 1) := by decide +kernel
theorem dX1_addMoved_5 : decode cX1_addMoved 5 = .ok (.getfield 39, 3) := by decide +kernel
theorem dX1_addMoved_8 : decode cX1_addMoved 8 = .ok (.iconst 1, 1) := by decide +kernel
theorem dX1_addMoved_9 : decode cX1_addMoved 9 = .ok (.invokevirtual 46, 3) := by decide +kernel
theorem dX1_addMoved_12 : decode cX1_addMoved 12 = .ok (.aload_n 0, 1) := by decide +kernel
theorem dX1_addMoved_13 : decode cX1_addMoved 13 = .ok (.getfield 26, 3) := by decide +kernel
theorem dX1_addMoved_16 : decode cX1_addMoved 16 = .ok (.aload_n 0, 1) := by decide +kernel
theorem dX1_addMoved_17 : decode cX1_addMoved 17 = .ok (.getfield 39, 3) := by decide +kernel
theorem dX1_addMoved_20 : decode cX1_addMoved 20 = .ok (.iload_n 1, 1) := by decide +kernel
theorem dX1_addMoved_21 : decode cX1_addMoved 21 = .ok (.invokevirtual 46, 3) := by decide +kernel
theorem dX1_addMoved_24 : decode cX1_addMoved 24 = .ok (.aload_n 0, 1) := by decide +kernel
theorem dX1_addMoved_25 : decode cX1_addMoved 25 = .ok (.getfield 29, 3) := by decide +kernel
theorem dX1_addMoved_28 : decode cX1_addMoved 28 = .ok (.aload_n 0, 1) := by decide +kernel
theorem dX1_addMoved_29 : decode cX1_addMoved 29 = .ok (.getfield 39, 3) := by decide +kernel
theorem dX1_addMoved_32 : decode cX1_addMoved 32 = .ok (.iload_n 2, 1) := by decide +kernel
theorem dX1_addMoved_33 : decode cX1_addMoved 33 = .ok (.invokevirtual 46, 3) := by decide +kernel
theorem dX1_addMoved_36 : decode cX1_addMoved 36 = .ok (.aload_n 0, 1) := by decide +kernel
theorem dX1_addMoved_37 : decode cX1_addMoved 37 = .ok (.dup, 1) := by decide +kernel
theorem dX1_addMoved_38 : decode cX1_addMoved 38 = .ok (.getfield 39, 3) := by decide +kernel
theorem dX1_addMoved_41 : decode cX1_addMoved 41 = .ok (.iconst 1, 1) := by decide +kernel
theorem dX1_addMoved_42 : decode cX1_addMoved 42 = .ok (.iadd, 1) := by decide +kernel
theorem dX1_addMoved_43 : decode cX1_addMoved 43 = .ok (.putfield 39, 3) := by decide +kernel
theorem dX1_addMoved_46 : decode cX1_addMoved 46 = .ok (.return_, 1) := by decide +kernel
set_option maxRecDepth 20000 in
theorem ggX1_addResampled_X2_put : GoodIn wsX1_addResampled wsX2_put := goodIn_r _ [8, 9, 18] (by decide +kernel) (by decide +kernel)
set_option maxRecDepth 20000 in
theorem gX1_addResampled_X2_put : GoodIn wsX1_addResampled (wsV RX1 46 RX2 yX2_put wsX2_put) := goodIn_app (goodIn_of _ (by decide +kernel)) ggX1_addResampled_X2_put
theorem dX1_addResampled_0 : decode cX1_addResampled 0 = .ok (.aload_n 0, 1) := by decide +kernel
theorem dX1_addResampled_1 : decode cX1_addResampled 1 = .ok (.getfield 23, 3) := by decide +kernel
theorem dX1_addResampled_4 : decode cX1_addResampled 4 = .ok (.aload_n 0, 1) := by decide +kernel
theorem dX1_addResampled_5 : decode cX1_addResampled 5 = .ok (.getfield 39, 3) := by decide +kernel
theorem dX1_addResampled_8 : decode cX1_addResampled 8 = .ok (.iconst 2, 1) := by decide +kernel
theorem dX1_addResampled_9 : decode cX1_addResampled 9 = .ok (.invokevirtual 46, 3) := by decide +kernel
theorem dX1_addResampled_12 : decode cX1_addResampled 12 = .ok (.aload_n 0, 1) := by decide +kernel
theorem dX1_addResampled_13 : decode cX1_addResampled 13 = .ok (.getfield 32, 3) := by decide +kernel
theorem dX1_addResampled_16 : decode cX1_addResampled 16 = .ok (.aload_n 0, 1) := by decide +kernel
theorem dX1_addResampled_17 : decode cX1_addResampled 17 = .ok (.getfield 39, 3) := by decide +kernel
theorem dX1_addResampled_20 : decode cX1_addResampled 20 = .ok (.iload_n 1, 1) := by decide +kernel
theorem dX1_addResampled_21 : decode cX1_addResampled 21 = .ok (.invokevirtual 46, 3) := by decide +kernel
theorem dX1_addResampled_24 : decode cX1_addResampled 24 = .ok (.aload_n 0, 1) := by decide +kernel
theorem dX1_addResampled_25 : decode cX1_addResampled 25 = .ok (.dup, 1) := by decide +kernel
theorem dX1_addResampled_26 : decode cX1_addResampled 26 = .ok (.getfield 39, 3) := by decide +kernel
theorem dX1_addResampled_29 : decode cX1_addResampled 29 = .ok (.iconst 1, 1) := by decide +kernel
theorem dX1_addResampled_30 : decode cX1_addResampled 30 = .ok (.iadd, 1) := by decide +kernel
theorem dX1_addResampled_31 : decode cX1_addResampled 31 = .ok (.putfield 39, 3) := by decide +kernel
theorem dX1_addResampled_34 : decode cX1_addResampled 34 = .ok (.return_, 1) := by decide +kernel
set_option maxRecDepth 20000 in
theorem ggX1_putParticle_X1_latest : GoodIn wsX1_putParticle wsX1_latest := goodIn_r _ [7, 8, 15, 16, 17, 18, 19, 20, 21, 22] (by decide +kernel) (by decide +kernel)
set_option maxRecDepth 20000 in
theorem gX1_putParticle_X1_latest : GoodIn wsX1_putParticle (wsV RX1 54 RX1 yX1_latest wsX1_latest) := goodIn_app (goodIn_of _ (by decide +kernel)) ggX1_putParticle_X1_latest
set_option maxRecDepth 20000 in
theorem ggX1_putParticle_X2_put : GoodIn wsX1_putParticle wsX2_put := goodIn_r _ [13, 14, 23] (by decide +kernel) (by decide +kernel)
set_option maxRecDepth 20000 in
theorem gX1_putParticle_X2_put : GoodIn wsX1_putParticle (wsV RX1 46 RX2 yX2_put wsX2_put) := goodIn_app (goodIn_of _ (by decide +kernel)) ggX1_putParticle_X2_put
theorem dX1_putParticle_0 : decode cX1_putParticle 0 = .ok (.aload_n 0, 1) := by decide +kernel
theorem dX1_putParticle_1 : decode cX1_putParticle 1 = .ok (.invokevirtual 54, 3) := by decide +kernel
theorem dX1_putParticle_4 : decode cX1_putParticle 4 = .ok (.bipush 12, 2) := by decide +kernel
theorem dX1_putParticle_6 : decode cX1_putParticle 6 = .ok (.imul, 1) := by decide +kernel
theorem dX1_putParticle_7 : decode cX1_putParticle 7 = .ok (.iload_n 1, 1) := by decide +kernel
theorem dX1_putParticle_8 : decode cX1_putParticle 8 = .ok (.iadd, 1) := by decide +kernel
theorem dX1_putParticle_9 : decode cX1_putParticle 9 = .ok (.istore 4, 2) := by decide +kernel
theorem dX1_putParticle_11 : decode cX1_putParticle 11 = .ok (.aload_n 0, 1) := by decide +kernel
theorem dX1_putParticle_12 : decode cX1_putParticle 12 = .ok (.getfield 20, 3) := by decide +kernel
theorem dX1_putParticle_15 : decode cX1_putParticle 15 = .ok (.iload 4, 2) := by decide +kernel
theorem dX1_putParticle_17 : decode cX1_putParticle 17 = .ok (.iload_n 2, 1) := by decide +kernel
theorem dX1_putParticle_18 : decode cX1_putParticle 18 = .ok (.invokevirtual 46, 3) := by decide +kernel
theorem dX1_putParticle_21 : decode cX1_putParticle 21 = .ok (.aload_n 0, 1) := by decide +kernel
theorem dX1_putParticle_22 : decode cX1_putParticle 22 = .ok (.getfield 14, 3) := by decide +kernel
theorem dX1_putParticle_25 : decode cX1_putParticle 25 = .ok (.iload 4, 2) := by decide +kernel
theorem dX1_putParticle_27 : decode cX1_putParticle 27 = .ok (.iload_n 3, 1) := by decide +kernel
theorem dX1_putParticle_28 : decode cX1_putParticle 28 = .ok (.invokevirtual 46, 3) := by decide +kernel
theorem dX1_putParticle_31 : decode cX1_putParticle 31 = .ok (.return_, 1) := by decide +kernel
theorem dX1_many_0 : decode cX1_many 0 = .ok (.aload_n 0, 1) := by decide +kernel
theorem dX1_many_1 : decode cX1_many 1 = .ok (.getfield 35, 3) := by decide +kernel
theorem dX1_many_4 : decode cX1_many 4 = .ok (.ireturn, 1) := by decide +kernel
theorem dX1_generations_0 : decode cX1_generations 0 = .ok (.aload_n 0, 1) := by decide +kernel
theorem dX1_generations_1 : decode cX1_generations 1 = .ok (.getfield 39, 3) := by decide +kernel
theorem dX1_generations_4 : decode cX1_generations 4 = .ok (.ireturn, 1) := by decide +kernel
theorem dX1_latest_0 : decode cX1_latest 0 = .ok (.aload_n 0, 1) := by decide +kernel
theorem dX1_latest_1 : decode cX1_latest 1 = .ok (.getfield 39, 3) := by decide +kernel
theorem dX1_latest_4 : decode cX1_latest 4 = .ok (.iconst 1, 1) := by decide +kernel
theorem dX1_latest_5 : decode cX1_latest 5 = .ok (.isub, 1) := by decide +kernel
theorem dX1_latest_6 : decode cX1_latest 6 = .ok (.ireturn, 1) := by decide +kernel
set_option maxRecDepth 20000 in
theorem ggX1_placeIn_X2_at : GoodIn wsX1_placeIn wsX2_at := goodIn_r _ [6, 7, 16] (by decide +kernel) (by decide +kernel)
set_option maxRecDepth 20000 in
theorem gX1_placeIn_X2_at : GoodIn wsX1_placeIn (wsV RX1 58 RX2 yX2_at wsX2_at) := goodIn_app (goodIn_of _ (by decide +kernel)) ggX1_placeIn_X2_at
theorem dX1_placeIn_0 : decode cX1_placeIn 0 = .ok (.aload_n 0, 1) := by decide +kernel
theorem dX1_placeIn_1 : decode cX1_placeIn 1 = .ok (.getfield 14, 3) := by decide +kernel
theorem dX1_placeIn_4 : decode cX1_placeIn 4 = .ok (.iload_n 1, 1) := by decide +kernel
theorem dX1_placeIn_5 : decode cX1_placeIn 5 = .ok (.bipush 12, 2) := by decide +kernel
theorem dX1_placeIn_7 : decode cX1_placeIn 7 = .ok (.imul, 1) := by decide +kernel
theorem dX1_placeIn_8 : decode cX1_placeIn 8 = .ok (.iload_n 2, 1) := by decide +kernel
theorem dX1_placeIn_9 : decode cX1_placeIn 9 = .ok (.iadd, 1) := by decide +kernel
theorem dX1_placeIn_10 : decode cX1_placeIn 10 = .ok (.invokevirtual 58, 3) := by decide +kernel
theorem dX1_placeIn_13 : decode cX1_placeIn 13 = .ok (.ireturn, 1) := by decide +kernel
set_option maxRecDepth 20000 in
theorem ggX1_parentIn_X2_at : GoodIn wsX1_parentIn wsX2_at := goodIn_r _ [6, 7, 16] (by decide +kernel) (by decide +kernel)
set_option maxRecDepth 20000 in
theorem gX1_parentIn_X2_at : GoodIn wsX1_parentIn (wsV RX1 58 RX2 yX2_at wsX2_at) := goodIn_app (goodIn_of _ (by decide +kernel)) ggX1_parentIn_X2_at
theorem dX1_parentIn_0 : decode cX1_parentIn 0 = .ok (.aload_n 0, 1) := by decide +kernel
theorem dX1_parentIn_1 : decode cX1_parentIn 1 = .ok (.getfield 20, 3) := by decide +kernel
theorem dX1_parentIn_4 : decode cX1_parentIn 4 = .ok (.iload_n 1, 1) := by decide +kernel
theorem dX1_parentIn_5 : decode cX1_parentIn 5 = .ok (.bipush 12, 2) := by decide +kernel
theorem dX1_parentIn_7 : decode cX1_parentIn 7 = .ok (.imul, 1) := by decide +kernel
theorem dX1_parentIn_8 : decode cX1_parentIn 8 = .ok (.iload_n 2, 1) := by decide +kernel
theorem dX1_parentIn_9 : decode cX1_parentIn 9 = .ok (.iadd, 1) := by decide +kernel
theorem dX1_parentIn_10 : decode cX1_parentIn 10 = .ok (.invokevirtual 58, 3) := by decide +kernel
theorem dX1_parentIn_13 : decode cX1_parentIn 13 = .ok (.ireturn, 1) := by decide +kernel
set_option maxRecDepth 20000 in
theorem ggX1_originOf_X2_at : GoodIn wsX1_originOf wsX2_at := goodIn_r _ [6, 7, 16] (by decide +kernel) (by decide +kernel)
set_option maxRecDepth 20000 in
theorem gX1_originOf_X2_at : GoodIn wsX1_originOf (wsV RX1 58 RX2 yX2_at wsX2_at) := goodIn_app (goodIn_of _ (by decide +kernel)) ggX1_originOf_X2_at
theorem dX1_originOf_0 : decode cX1_originOf 0 = .ok (.aload_n 0, 1) := by decide +kernel
theorem dX1_originOf_1 : decode cX1_originOf 1 = .ok (.getfield 23, 3) := by decide +kernel
theorem dX1_originOf_4 : decode cX1_originOf 4 = .ok (.iload_n 1, 1) := by decide +kernel
theorem dX1_originOf_5 : decode cX1_originOf 5 = .ok (.invokevirtual 58, 3) := by decide +kernel
theorem dX1_originOf_8 : decode cX1_originOf 8 = .ok (.ireturn, 1) := by decide +kernel
set_option maxRecDepth 20000 in
theorem ggX1_driftOf_X2_at : GoodIn wsX1_driftOf wsX2_at := goodIn_r _ [6, 7, 16] (by decide +kernel) (by decide +kernel)
set_option maxRecDepth 20000 in
theorem gX1_driftOf_X2_at : GoodIn wsX1_driftOf (wsV RX1 58 RX2 yX2_at wsX2_at) := goodIn_app (goodIn_of _ (by decide +kernel)) ggX1_driftOf_X2_at
theorem dX1_driftOf_0 : decode cX1_driftOf 0 = .ok (.aload_n 0, 1) := by decide +kernel
theorem dX1_driftOf_1 : decode cX1_driftOf 1 = .ok (.getfield 26, 3) := by decide +kernel
theorem dX1_driftOf_4 : decode cX1_driftOf 4 = .ok (.iload_n 1, 1) := by decide +kernel
theorem dX1_driftOf_5 : decode cX1_driftOf 5 = .ok (.invokevirtual 58, 3) := by decide +kernel
theorem dX1_driftOf_8 : decode cX1_driftOf 8 = .ok (.ireturn, 1) := by decide +kernel
set_option maxRecDepth 20000 in
theorem ggX1_spreadOf_X2_at : GoodIn wsX1_spreadOf wsX2_at := goodIn_r _ [6, 7, 16] (by decide +kernel) (by decide +kernel)
set_option maxRecDepth 20000 in
theorem gX1_spreadOf_X2_at : GoodIn wsX1_spreadOf (wsV RX1 58 RX2 yX2_at wsX2_at) := goodIn_app (goodIn_of _ (by decide +kernel)) ggX1_spreadOf_X2_at
theorem dX1_spreadOf_0 : decode cX1_spreadOf 0 = .ok (.aload_n 0, 1) := by decide +kernel
theorem dX1_spreadOf_1 : decode cX1_spreadOf 1 = .ok (.getfield 29, 3) := by decide +kernel
theorem dX1_spreadOf_4 : decode cX1_spreadOf 4 = .ok (.iload_n 1, 1) := by decide +kernel
theorem dX1_spreadOf_5 : decode cX1_spreadOf 5 = .ok (.invokevirtual 58, 3) := by decide +kernel
theorem dX1_spreadOf_8 : decode cX1_spreadOf 8 = .ok (.ireturn, 1) := by decide +kernel
set_option maxRecDepth 20000 in
theorem ggX1_schemeOf_X2_at : GoodIn wsX1_schemeOf wsX2_at := goodIn_r _ [6, 7, 16] (by decide +kernel) (by decide +kernel)
set_option maxRecDepth 20000 in
theorem gX1_schemeOf_X2_at : GoodIn wsX1_schemeOf (wsV RX1 58 RX2 yX2_at wsX2_at) := goodIn_app (goodIn_of _ (by decide +kernel)) ggX1_schemeOf_X2_at
theorem dX1_schemeOf_0 : decode cX1_schemeOf 0 = .ok (.aload_n 0, 1) := by decide +kernel
theorem dX1_schemeOf_1 : decode cX1_schemeOf 1 = .ok (.getfield 32, 3) := by decide +kernel
theorem dX1_schemeOf_4 : decode cX1_schemeOf 4 = .ok (.iload_n 1, 1) := by decide +kernel
theorem dX1_schemeOf_5 : decode cX1_schemeOf 5 = .ok (.invokevirtual 58, 3) := by decide +kernel
theorem dX1_schemeOf_8 : decode cX1_schemeOf 8 = .ok (.ireturn, 1) := by decide +kernel
set_option maxRecDepth 20000 in
theorem ggX1_ancestorIn_X1_latest : GoodIn wsX1_ancestorIn wsX1_latest := goodIn_r _ [6, 7, 14, 15, 16, 17, 18, 19, 20, 21] (by decide +kernel) (by decide +kernel)
set_option maxRecDepth 20000 in
theorem gX1_ancestorIn_X1_latest : GoodIn wsX1_ancestorIn (wsV RX1 54 RX1 yX1_latest wsX1_latest) := goodIn_app (goodIn_of _ (by decide +kernel)) ggX1_ancestorIn_X1_latest
set_option maxRecDepth 20000 in
theorem ggX1_ancestorIn_X2_at : GoodIn wsX1_ancestorIn wsX2_at := goodIn_r _ [12, 13, 22] (by decide +kernel) (by decide +kernel)
set_option maxRecDepth 20000 in
theorem gX1_ancestorIn_X2_at : GoodIn wsX1_ancestorIn (wsV RX1 58 RX2 yX2_at wsX2_at) := goodIn_app (goodIn_of _ (by decide +kernel)) ggX1_ancestorIn_X2_at
theorem dX1_ancestorIn_0 : decode cX1_ancestorIn 0 = .ok (.iload_n 2, 1) := by decide +kernel
theorem dX1_ancestorIn_1 : decode cX1_ancestorIn 1 = .ok (.istore_n 3, 1) := by decide +kernel
theorem dX1_ancestorIn_2 : decode cX1_ancestorIn 2 = .ok (.aload_n 0, 1) := by decide +kernel
theorem dX1_ancestorIn_3 : decode cX1_ancestorIn 3 = .ok (.invokevirtual 54, 3) := by decide +kernel
theorem dX1_ancestorIn_6 : decode cX1_ancestorIn 6 = .ok (.istore 4, 2) := by decide +kernel
theorem dX1_ancestorIn_8 : decode cX1_ancestorIn 8 = .ok (.iload 4, 2) := by decide +kernel
theorem dX1_ancestorIn_10 : decode cX1_ancestorIn 10 = .ok (.iload_n 1, 1) := by decide +kernel
theorem dX1_ancestorIn_11 : decode cX1_ancestorIn 11 = .ok (.if_icmp .le 24, 3) := by decide +kernel
theorem dX1_ancestorIn_14 : decode cX1_ancestorIn 14 = .ok (.aload_n 0, 1) := by decide +kernel
theorem dX1_ancestorIn_15 : decode cX1_ancestorIn 15 = .ok (.getfield 20, 3) := by decide +kernel
theorem dX1_ancestorIn_18 : decode cX1_ancestorIn 18 = .ok (.iload 4, 2) := by decide +kernel
theorem dX1_ancestorIn_20 : decode cX1_ancestorIn 20 = .ok (.bipush 12, 2) := by decide +kernel
theorem dX1_ancestorIn_22 : decode cX1_ancestorIn 22 = .ok (.imul, 1) := by decide +kernel
theorem dX1_ancestorIn_23 : decode cX1_ancestorIn 23 = .ok (.iload_n 3, 1) := by decide +kernel
theorem dX1_ancestorIn_24 : decode cX1_ancestorIn 24 = .ok (.iadd, 1) := by decide +kernel
theorem dX1_ancestorIn_25 : decode cX1_ancestorIn 25 = .ok (.invokevirtual 58, 3) := by decide +kernel
theorem dX1_ancestorIn_28 : decode cX1_ancestorIn 28 = .ok (.istore_n 3, 1) := by decide +kernel
theorem dX1_ancestorIn_29 : decode cX1_ancestorIn 29 = .ok (.iinc 4 (-1), 3) := by decide +kernel
theorem dX1_ancestorIn_32 : decode cX1_ancestorIn 32 = .ok (.goto (-24), 3) := by decide +kernel
theorem dX1_ancestorIn_35 : decode cX1_ancestorIn 35 = .ok (.iload_n 3, 1) := by decide +kernel
theorem dX1_ancestorIn_36 : decode cX1_ancestorIn 36 = .ok (.ireturn, 1) := by decide +kernel
set_option maxRecDepth 20000 in
theorem ggX1_howManyAreAncestors_X1_ancestorIn : GoodIn wsX1_howManyAreAncestors wsX1_ancestorIn := goodIn_r _ [6, 7, 8, 9, 10, 5, 11, 12, 13, 14, 15, 16, 17, 18, 26, 27, 28, 29, 30, 31, 32, 33, 34] (by decide +kernel) (by decide +kernel)
set_option maxRecDepth 20000 in
theorem gX1_howManyAreAncestors_X1_ancestorIn : GoodIn wsX1_howManyAreAncestors (wsV RX1 61 RX1 yX1_ancestorIn wsX1_ancestorIn) := goodIn_app (goodIn_of _ (by decide +kernel)) ggX1_howManyAreAncestors_X1_ancestorIn
set_option maxRecDepth 20000 in
theorem ggX1_howManyAreAncestors_J6_bitCount_0f7a4 : GoodIn wsX1_howManyAreAncestors wsJ6_bitCount_0f7a4 := goodIn_r _ [22, 23, 24, 25] (by decide +kernel) (by decide +kernel)
set_option maxRecDepth 20000 in
theorem gX1_howManyAreAncestors_J6_bitCount_0f7a4 : GoodIn wsX1_howManyAreAncestors (va_wsS RX1 65 yJ6_bitCount_0f7a4 wsJ6_bitCount_0f7a4) := goodIn_app (goodIn_of _ (by decide +kernel)) ggX1_howManyAreAncestors_J6_bitCount_0f7a4
theorem dX1_howManyAreAncestors_0 : decode cX1_howManyAreAncestors 0 = .ok (.iconst 0, 1) := by decide +kernel
theorem dX1_howManyAreAncestors_1 : decode cX1_howManyAreAncestors 1 = .ok (.istore_n 2, 1) := by decide +kernel
theorem dX1_howManyAreAncestors_2 : decode cX1_howManyAreAncestors 2 = .ok (.iconst 0, 1) := by decide +kernel
theorem dX1_howManyAreAncestors_3 : decode cX1_howManyAreAncestors 3 = .ok (.istore_n 3, 1) := by decide +kernel
theorem dX1_howManyAreAncestors_4 : decode cX1_howManyAreAncestors 4 = .ok (.iload_n 3, 1) := by decide +kernel
theorem dX1_howManyAreAncestors_5 : decode cX1_howManyAreAncestors 5 = .ok (.aload_n 0, 1) := by decide +kernel
theorem dX1_howManyAreAncestors_6 : decode cX1_howManyAreAncestors 6 = .ok (.getfield 35, 3) := by decide +kernel
theorem dX1_howManyAreAncestors_9 : decode cX1_howManyAreAncestors 9 = .ok (.if_icmp .ge 20, 3) := by decide +kernel
theorem dX1_howManyAreAncestors_12 : decode cX1_howManyAreAncestors 12 = .ok (.iload_n 2, 1) := by decide +kernel
theorem dX1_howManyAreAncestors_13 : decode cX1_howManyAreAncestors 13 = .ok (.iconst 1, 1) := by decide +kernel
theorem dX1_howManyAreAncestors_14 : decode cX1_howManyAreAncestors 14 = .ok (.aload_n 0, 1) := by decide +kernel
theorem dX1_howManyAreAncestors_15 : decode cX1_howManyAreAncestors 15 = .ok (.iload_n 1, 1) := by decide +kernel
theorem dX1_howManyAreAncestors_16 : decode cX1_howManyAreAncestors 16 = .ok (.iload_n 3, 1) := by decide +kernel
theorem dX1_howManyAreAncestors_17 : decode cX1_howManyAreAncestors 17 = .ok (.invokevirtual 61, 3) := by decide +kernel
theorem dX1_howManyAreAncestors_20 : decode cX1_howManyAreAncestors 20 = .ok (.ishl, 1) := by decide +kernel
theorem dX1_howManyAreAncestors_21 : decode cX1_howManyAreAncestors 21 = .ok (.ior, 1) := by decide +kernel
theorem dX1_howManyAreAncestors_22 : decode cX1_howManyAreAncestors 22 = .ok (.istore_n 2, 1) := by decide +kernel
theorem dX1_howManyAreAncestors_23 : decode cX1_howManyAreAncestors 23 = .ok (.iinc 3 1, 3) := by decide +kernel
theorem dX1_howManyAreAncestors_26 : decode cX1_howManyAreAncestors 26 = .ok (.goto (-22), 3) := by decide +kernel
theorem dX1_howManyAreAncestors_29 : decode cX1_howManyAreAncestors 29 = .ok (.iload_n 2, 1) := by decide +kernel
theorem dX1_howManyAreAncestors_30 : decode cX1_howManyAreAncestors 30 = .ok (.invokestatic 65, 3) := by decide +kernel
theorem dX1_howManyAreAncestors_33 : decode cX1_howManyAreAncestors 33 = .ok (.ireturn, 1) := by decide +kernel
set_option maxRecDepth 20000 in
theorem ggX1_howManyAt_X1_placeIn : GoodIn wsX1_howManyAt wsX1_placeIn := goodIn_r _ [6, 7, 8, 9, 10, 11, 12, 13, 14, 15, 16, 17, 18, 19, 20, 21, 22] (by decide +kernel) (by decide +kernel)
set_option maxRecDepth 20000 in
theorem gX1_howManyAt_X1_placeIn : GoodIn wsX1_howManyAt (wsV RX1 70 RX1 yX1_placeIn wsX1_placeIn) := goodIn_app (goodIn_of _ (by decide +kernel)) ggX1_howManyAt_X1_placeIn
theorem dX1_howManyAt_0 : decode cX1_howManyAt 0 = .ok (.iconst 0, 1) := by decide +kernel
theorem dX1_howManyAt_1 : decode cX1_howManyAt 1 = .ok (.istore_n 3, 1) := by decide +kernel
theorem dX1_howManyAt_2 : decode cX1_howManyAt 2 = .ok (.iconst 0, 1) := by decide +kernel
theorem dX1_howManyAt_3 : decode cX1_howManyAt 3 = .ok (.istore 4, 2) := by decide +kernel
theorem dX1_howManyAt_5 : decode cX1_howManyAt 5 = .ok (.iload 4, 2) := by decide +kernel
theorem dX1_howManyAt_7 : decode cX1_howManyAt 7 = .ok (.aload_n 0, 1) := by decide +kernel
theorem dX1_howManyAt_8 : decode cX1_howManyAt 8 = .ok (.getfield 35, 3) := by decide +kernel
theorem dX1_howManyAt_11 : decode cX1_howManyAt 11 = .ok (.if_icmp .ge 23, 3) := by decide +kernel
theorem dX1_howManyAt_14 : decode cX1_howManyAt 14 = .ok (.aload_n 0, 1) := by decide +kernel
theorem dX1_howManyAt_15 : decode cX1_howManyAt 15 = .ok (.iload_n 1, 1) := by decide +kernel
theorem dX1_howManyAt_16 : decode cX1_howManyAt 16 = .ok (.iload 4, 2) := by decide +kernel
theorem dX1_howManyAt_18 : decode cX1_howManyAt 18 = .ok (.invokevirtual 70, 3) := by decide +kernel
theorem dX1_howManyAt_21 : decode cX1_howManyAt 21 = .ok (.iload_n 2, 1) := by decide +kernel
theorem dX1_howManyAt_22 : decode cX1_howManyAt 22 = .ok (.if_icmp .ne 6, 3) := by decide +kernel
theorem dX1_howManyAt_25 : decode cX1_howManyAt 25 = .ok (.iinc 3 1, 3) := by decide +kernel
theorem dX1_howManyAt_28 : decode cX1_howManyAt 28 = .ok (.iinc 4 1, 3) := by decide +kernel
theorem dX1_howManyAt_31 : decode cX1_howManyAt 31 = .ok (.goto (-26), 3) := by decide +kernel
theorem dX1_howManyAt_34 : decode cX1_howManyAt 34 = .ok (.iload_n 3, 1) := by decide +kernel
theorem dX1_howManyAt_35 : decode cX1_howManyAt 35 = .ok (.ireturn, 1) := by decide +kernel
set_option maxRecDepth 20000 in
theorem ggX1_howManyUnlikePlaces_X1_isFirstAtItsPlace : GoodIn wsX1_howManyUnlikePlaces wsX1_isFirstAtItsPlace := goodIn_r _ [6, 7, 8, 9, 5, 10, 11, 12, 13, 14, 15, 16, 17, 18, 19, 20, 21, 22, 23, 24, 25, 26] (by decide +kernel) (by decide +kernel)
set_option maxRecDepth 20000 in
theorem gX1_howManyUnlikePlaces_X1_isFirstAtItsPlace : GoodIn wsX1_howManyUnlikePlaces (wsV RX1 73 RX1 yX1_isFirstAtItsPlace wsX1_isFirstAtItsPlace) := goodIn_app (goodIn_of _ (by decide +kernel)) ggX1_howManyUnlikePlaces_X1_isFirstAtItsPlace
theorem dX1_howManyUnlikePlaces_0 : decode cX1_howManyUnlikePlaces 0 = .ok (.iconst 0, 1) := by decide +kernel
theorem dX1_howManyUnlikePlaces_1 : decode cX1_howManyUnlikePlaces 1 = .ok (.istore_n 2, 1) := by decide +kernel
theorem dX1_howManyUnlikePlaces_2 : decode cX1_howManyUnlikePlaces 2 = .ok (.iconst 0, 1) := by decide +kernel
theorem dX1_howManyUnlikePlaces_3 : decode cX1_howManyUnlikePlaces 3 = .ok (.istore_n 3, 1) := by decide +kernel
theorem dX1_howManyUnlikePlaces_4 : decode cX1_howManyUnlikePlaces 4 = .ok (.iload_n 3, 1) := by decide +kernel
theorem dX1_howManyUnlikePlaces_5 : decode cX1_howManyUnlikePlaces 5 = .ok (.aload_n 0, 1) := by decide +kernel
theorem dX1_howManyUnlikePlaces_6 : decode cX1_howManyUnlikePlaces 6 = .ok (.getfield 35, 3) := by decide +kernel
theorem dX1_howManyUnlikePlaces_9 : decode cX1_howManyUnlikePlaces 9 = .ok (.if_icmp .ge 21, 3) := by decide +kernel
theorem dX1_howManyUnlikePlaces_12 : decode cX1_howManyUnlikePlaces 12 = .ok (.aload_n 0, 1) := by decide +kernel
theorem dX1_howManyUnlikePlaces_13 : decode cX1_howManyUnlikePlaces 13 = .ok (.iload_n 1, 1) := by decide +kernel
theorem dX1_howManyUnlikePlaces_14 : decode cX1_howManyUnlikePlaces 14 = .ok (.iload_n 3, 1) := by decide +kernel
theorem dX1_howManyUnlikePlaces_15 : decode cX1_howManyUnlikePlaces 15 = .ok (.invokevirtual 73, 3) := by decide +kernel
theorem dX1_howManyUnlikePlaces_18 : decode cX1_howManyUnlikePlaces 18 = .ok (.ifCond .eq 6, 3) := by decide +kernel
theorem dX1_howManyUnlikePlaces_21 : decode cX1_howManyUnlikePlaces 21 = .ok (.iinc 2 1, 3) := by decide +kernel
theorem dX1_howManyUnlikePlaces_24 : decode cX1_howManyUnlikePlaces 24 = .ok (.iinc 3 1, 3) := by decide +kernel
theorem dX1_howManyUnlikePlaces_27 : decode cX1_howManyUnlikePlaces 27 = .ok (.goto (-23), 3) := by decide +kernel
theorem dX1_howManyUnlikePlaces_30 : decode cX1_howManyUnlikePlaces 30 = .ok (.iload_n 2, 1) := by decide +kernel
theorem dX1_howManyUnlikePlaces_31 : decode cX1_howManyUnlikePlaces 31 = .ok (.ireturn, 1) := by decide +kernel
set_option maxRecDepth 20000 in
theorem ggX1_isFirstAtItsPlace_X1_placeIn : GoodIn wsX1_isFirstAtItsPlace wsX1_placeIn := goodIn_r _ [5, 6, 7, 8, 9, 10, 11, 12, 13, 14, 15, 16, 17, 18, 19, 20, 21] (by decide +kernel) (by decide +kernel)
set_option maxRecDepth 20000 in
theorem gX1_isFirstAtItsPlace_X1_placeIn : GoodIn wsX1_isFirstAtItsPlace (wsV RX1 70 RX1 yX1_placeIn wsX1_placeIn) := goodIn_app (goodIn_of _ (by decide +kernel)) ggX1_isFirstAtItsPlace_X1_placeIn
theorem dX1_isFirstAtItsPlace_0 : decode cX1_isFirstAtItsPlace 0 = .ok (.aload_n 0, 1) := by decide +kernel
theorem dX1_isFirstAtItsPlace_1 : decode cX1_isFirstAtItsPlace 1 = .ok (.iload_n 1, 1) := by decide +kernel
theorem dX1_isFirstAtItsPlace_2 : decode cX1_isFirstAtItsPlace 2 = .ok (.iload_n 2, 1) := by decide +kernel
theorem dX1_isFirstAtItsPlace_3 : decode cX1_isFirstAtItsPlace 3 = .ok (.invokevirtual 70, 3) := by decide +kernel
theorem dX1_isFirstAtItsPlace_6 : decode cX1_isFirstAtItsPlace 6 = .ok (.istore_n 3, 1) := by decide +kernel
theorem dX1_isFirstAtItsPlace_7 : decode cX1_isFirstAtItsPlace 7 = .ok (.iconst 0, 1) := by decide +kernel
theorem dX1_isFirstAtItsPlace_8 : decode cX1_isFirstAtItsPlace 8 = .ok (.istore 4, 2) := by decide +kernel
theorem dX1_isFirstAtItsPlace_10 : decode cX1_isFirstAtItsPlace 10 = .ok (.iload 4, 2) := by decide +kernel
theorem dX1_isFirstAtItsPlace_12 : decode cX1_isFirstAtItsPlace 12 = .ok (.iload_n 2, 1) := by decide +kernel
theorem dX1_isFirstAtItsPlace_13 : decode cX1_isFirstAtItsPlace 13 = .ok (.if_icmp .ge 22, 3) := by decide +kernel
theorem dX1_isFirstAtItsPlace_16 : decode cX1_isFirstAtItsPlace 16 = .ok (.aload_n 0, 1) := by decide +kernel
theorem dX1_isFirstAtItsPlace_17 : decode cX1_isFirstAtItsPlace 17 = .ok (.iload_n 1, 1) := by decide +kernel
theorem dX1_isFirstAtItsPlace_18 : decode cX1_isFirstAtItsPlace 18 = .ok (.iload 4, 2) := by decide +kernel
theorem dX1_isFirstAtItsPlace_20 : decode cX1_isFirstAtItsPlace 20 = .ok (.invokevirtual 70, 3) := by decide +kernel
theorem dX1_isFirstAtItsPlace_23 : decode cX1_isFirstAtItsPlace 23 = .ok (.iload_n 3, 1) := by decide +kernel
theorem dX1_isFirstAtItsPlace_24 : decode cX1_isFirstAtItsPlace 24 = .ok (.if_icmp .ne 5, 3) := by decide +kernel
theorem dX1_isFirstAtItsPlace_27 : decode cX1_isFirstAtItsPlace 27 = .ok (.iconst 0, 1) := by decide +kernel
theorem dX1_isFirstAtItsPlace_28 : decode cX1_isFirstAtItsPlace 28 = .ok (.ireturn, 1) := by decide +kernel
theorem dX1_isFirstAtItsPlace_29 : decode cX1_isFirstAtItsPlace 29 = .ok (.iinc 4 1, 3) := by decide +kernel
theorem dX1_isFirstAtItsPlace_32 : decode cX1_isFirstAtItsPlace 32 = .ok (.goto (-22), 3) := by decide +kernel
theorem dX1_isFirstAtItsPlace_35 : decode cX1_isFirstAtItsPlace 35 = .ok (.iconst 1, 1) := by decide +kernel
theorem dX1_isFirstAtItsPlace_36 : decode cX1_isFirstAtItsPlace 36 = .ok (.ireturn, 1) := by decide +kernel
set_option maxRecDepth 20000 in
theorem ggX1_meetingOf_X1_latest : GoodIn wsX1_meetingOf wsX1_latest := goodIn_r _ [6, 7, 19, 20, 21, 22, 23, 24, 25, 26] (by decide +kernel) (by decide +kernel)
set_option maxRecDepth 20000 in
theorem gX1_meetingOf_X1_latest : GoodIn wsX1_meetingOf (wsV RX1 54 RX1 yX1_latest wsX1_latest) := goodIn_app (goodIn_of _ (by decide +kernel)) ggX1_meetingOf_X1_latest
set_option maxRecDepth 20000 in
theorem ggX1_meetingOf_X1_parentIn : GoodIn wsX1_meetingOf wsX1_parentIn := goodIn_r _ [11, 12, 13, 14, 15, 16, 17, 18, 19, 20, 21, 22, 23, 24, 25, 26, 27] (by decide +kernel) (by decide +kernel)
set_option maxRecDepth 20000 in
theorem gX1_meetingOf_X1_parentIn : GoodIn wsX1_meetingOf (wsV RX1 77 RX1 yX1_parentIn wsX1_parentIn) := goodIn_app (goodIn_of _ (by decide +kernel)) ggX1_meetingOf_X1_parentIn
theorem dX1_meetingOf_0 : decode cX1_meetingOf 0 = .ok (.iload_n 1, 1) := by decide +kernel
theorem dX1_meetingOf_1 : decode cX1_meetingOf 1 = .ok (.istore_n 3, 1) := by decide +kernel
theorem dX1_meetingOf_2 : decode cX1_meetingOf 2 = .ok (.iload_n 2, 1) := by decide +kernel
theorem dX1_meetingOf_3 : decode cX1_meetingOf 3 = .ok (.istore 4, 2) := by decide +kernel
theorem dX1_meetingOf_5 : decode cX1_meetingOf 5 = .ok (.aload_n 0, 1) := by decide +kernel
theorem dX1_meetingOf_6 : decode cX1_meetingOf 6 = .ok (.invokevirtual 54, 3) := by decide +kernel
theorem dX1_meetingOf_9 : decode cX1_meetingOf 9 = .ok (.istore 5, 2) := by decide +kernel
theorem dX1_meetingOf_11 : decode cX1_meetingOf 11 = .ok (.iload 5, 2) := by decide +kernel
theorem dX1_meetingOf_13 : decode cX1_meetingOf 13 = .ok (.ifCond .lt 36, 3) := by decide +kernel
theorem dX1_meetingOf_16 : decode cX1_meetingOf 16 = .ok (.iload_n 3, 1) := by decide +kernel
theorem dX1_meetingOf_17 : decode cX1_meetingOf 17 = .ok (.iload 4, 2) := by decide +kernel
theorem dX1_meetingOf_19 : decode cX1_meetingOf 19 = .ok (.if_icmp .ne 6, 3) := by decide +kernel
theorem dX1_meetingOf_22 : decode cX1_meetingOf 22 = .ok (.iload 5, 2) := by decide +kernel
theorem dX1_meetingOf_24 : decode cX1_meetingOf 24 = .ok (.ireturn, 1) := by decide +kernel
theorem dX1_meetingOf_25 : decode cX1_meetingOf 25 = .ok (.aload_n 0, 1) := by decide +kernel
theorem dX1_meetingOf_26 : decode cX1_meetingOf 26 = .ok (.iload 5, 2) := by decide +kernel
theorem dX1_meetingOf_28 : decode cX1_meetingOf 28 = .ok (.iload_n 3, 1) := by decide +kernel
theorem dX1_meetingOf_29 : decode cX1_meetingOf 29 = .ok (.invokevirtual 77, 3) := by decide +kernel
theorem dX1_meetingOf_32 : decode cX1_meetingOf 32 = .ok (.istore_n 3, 1) := by decide +kernel
theorem dX1_meetingOf_33 : decode cX1_meetingOf 33 = .ok (.aload_n 0, 1) := by decide +kernel
theorem dX1_meetingOf_34 : decode cX1_meetingOf 34 = .ok (.iload 5, 2) := by decide +kernel
theorem dX1_meetingOf_36 : decode cX1_meetingOf 36 = .ok (.iload 4, 2) := by decide +kernel
theorem dX1_meetingOf_38 : decode cX1_meetingOf 38 = .ok (.invokevirtual 77, 3) := by decide +kernel
theorem dX1_meetingOf_41 : decode cX1_meetingOf 41 = .ok (.istore 4, 2) := by decide +kernel
theorem dX1_meetingOf_43 : decode cX1_meetingOf 43 = .ok (.iinc 5 (-1), 3) := by decide +kernel
theorem dX1_meetingOf_46 : decode cX1_meetingOf 46 = .ok (.goto (-35), 3) := by decide +kernel
theorem dX1_meetingOf_49 : decode cX1_meetingOf 49 = .ok (.ldc 80, 2) := by decide +kernel
theorem dX1_meetingOf_51 : decode cX1_meetingOf 51 = .ok (.ireturn, 1) := by decide +kernel
theorem dX2_init_0 : decode cX2_init 0 = .ok (.aload_n 0, 1) := by decide +kernel
theorem dX2_init_1 : decode cX2_init 1 = .ok (.invokespecial 1, 3) := by decide +kernel
theorem dX2_init_4 : decode cX2_init 4 = .ok (.aload_n 0, 1) := by decide +kernel
theorem dX2_init_5 : decode cX2_init 5 = .ok (.iconst 0, 1) := by decide +kernel
theorem dX2_init_6 : decode cX2_init 6 = .ok (.iload_n 1, 1) := by decide +kernel
theorem dX2_init_7 : decode cX2_init 7 = .ok (.invokestatic 7, 3) := by decide +kernel
theorem dX2_init_10 : decode cX2_init 10 = .ok (.newarray .int, 2) := by decide +kernel
theorem dX2_init_12 : decode cX2_init 12 = .ok (.putfield 13, 3) := by decide +kernel
theorem dX2_init_15 : decode cX2_init 15 = .ok (.return_, 1) := by decide +kernel
theorem dX2_at_0 : decode cX2_at 0 = .ok (.iload_n 1, 1) := by decide +kernel
theorem dX2_at_1 : decode cX2_at 1 = .ok (.ifCond .lt 12, 3) := by decide +kernel
theorem dX2_at_4 : decode cX2_at 4 = .ok (.iload_n 1, 1) := by decide +kernel
theorem dX2_at_5 : decode cX2_at 5 = .ok (.aload_n 0, 1) := by decide +kernel
theorem dX2_at_6 : decode cX2_at 6 = .ok (.getfield 13, 3) := by decide +kernel
theorem dX2_at_9 : decode cX2_at 9 = .ok (.arraylength, 1) := by decide +kernel
theorem dX2_at_10 : decode cX2_at 10 = .ok (.if_icmp .lt 5, 3) := by decide +kernel
theorem dX2_at_13 : decode cX2_at 13 = .ok (.iconst 0, 1) := by decide +kernel
theorem dX2_at_14 : decode cX2_at 14 = .ok (.ireturn, 1) := by decide +kernel
theorem dX2_at_15 : decode cX2_at 15 = .ok (.aload_n 0, 1) := by decide +kernel
theorem dX2_at_16 : decode cX2_at 16 = .ok (.getfield 13, 3) := by decide +kernel
theorem dX2_at_19 : decode cX2_at 19 = .ok (.iload_n 1, 1) := by decide +kernel
theorem dX2_at_20 : decode cX2_at 20 = .ok (.iaload, 1) := by decide +kernel
theorem dX2_at_21 : decode cX2_at 21 = .ok (.ireturn, 1) := by decide +kernel
theorem dX2_put_0 : decode cX2_put 0 = .ok (.iload_n 1, 1) := by decide +kernel
theorem dX2_put_1 : decode cX2_put 1 = .ok (.ifCond .lt 19, 3) := by decide +kernel
theorem dX2_put_4 : decode cX2_put 4 = .ok (.iload_n 1, 1) := by decide +kernel
theorem dX2_put_5 : decode cX2_put 5 = .ok (.aload_n 0, 1) := by decide +kernel
theorem dX2_put_6 : decode cX2_put 6 = .ok (.getfield 13, 3) := by decide +kernel
theorem dX2_put_9 : decode cX2_put 9 = .ok (.arraylength, 1) := by decide +kernel
theorem dX2_put_10 : decode cX2_put 10 = .ok (.if_icmp .ge 10, 3) := by decide +kernel
theorem dX2_put_13 : decode cX2_put 13 = .ok (.aload_n 0, 1) := by decide +kernel
theorem dX2_put_14 : decode cX2_put 14 = .ok (.getfield 13, 3) := by decide +kernel
theorem dX2_put_17 : decode cX2_put 17 = .ok (.iload_n 1, 1) := by decide +kernel
theorem dX2_put_18 : decode cX2_put 18 = .ok (.iload_n 2, 1) := by decide +kernel
theorem dX2_put_19 : decode cX2_put 19 = .ok (.iastore, 1) := by decide +kernel
theorem dX2_put_20 : decode cX2_put 20 = .ok (.return_, 1) := by decide +kernel
theorem dX2_copyRow_0 : decode cX2_copyRow 0 = .ok (.iconst 0, 1) := by decide +kernel
theorem dX2_copyRow_1 : decode cX2_copyRow 1 = .ok (.istore_n 2, 1) := by decide +kernel
theorem dX2_copyRow_2 : decode cX2_copyRow 2 = .ok (.iload_n 2, 1) := by decide +kernel
theorem dX2_copyRow_3 : decode cX2_copyRow 3 = .ok (.aload_n 0, 1) := by decide +kernel
theorem dX2_copyRow_4 : decode cX2_copyRow 4 = .ok (.getfield 13, 3) := by decide +kernel
theorem dX2_copyRow_7 : decode cX2_copyRow 7 = .ok (.arraylength, 1) := by decide +kernel
theorem dX2_copyRow_8 : decode cX2_copyRow 8 = .ok (.if_icmp .ge 30, 3) := by decide +kernel
theorem dX2_copyRow_11 : decode cX2_copyRow 11 = .ok (.iload_n 2, 1) := by decide +kernel
theorem dX2_copyRow_12 : decode cX2_copyRow 12 = .ok (.aload_n 1, 1) := by decide +kernel
theorem dX2_copyRow_13 : decode cX2_copyRow 13 = .ok (.getfield 13, 3) := by decide +kernel
theorem dX2_copyRow_16 : decode cX2_copyRow 16 = .ok (.arraylength, 1) := by decide +kernel
theorem dX2_copyRow_17 : decode cX2_copyRow 17 = .ok (.if_icmp .ge 21, 3) := by decide +kernel
theorem dX2_copyRow_20 : decode cX2_copyRow 20 = .ok (.aload_n 0, 1) := by decide +kernel
theorem dX2_copyRow_21 : decode cX2_copyRow 21 = .ok (.getfield 13, 3) := by decide +kernel
theorem dX2_copyRow_24 : decode cX2_copyRow 24 = .ok (.iload_n 2, 1) := by decide +kernel
theorem dX2_copyRow_25 : decode cX2_copyRow 25 = .ok (.aload_n 1, 1) := by decide +kernel
theorem dX2_copyRow_26 : decode cX2_copyRow 26 = .ok (.getfield 13, 3) := by decide +kernel
theorem dX2_copyRow_29 : decode cX2_copyRow 29 = .ok (.iload_n 2, 1) := by decide +kernel
theorem dX2_copyRow_30 : decode cX2_copyRow 30 = .ok (.iaload, 1) := by decide +kernel
theorem dX2_copyRow_31 : decode cX2_copyRow 31 = .ok (.iastore, 1) := by decide +kernel
theorem dX2_copyRow_32 : decode cX2_copyRow 32 = .ok (.iinc 2 1, 3) := by decide +kernel
theorem dX2_copyRow_35 : decode cX2_copyRow 35 = .ok (.goto (-33), 3) := by decide +kernel
theorem dX2_copyRow_38 : decode cX2_copyRow 38 = .ok (.return_, 1) := by decide +kernel
theorem dX3_init_0 : decode cX3_init 0 = .ok (.aload_n 0, 1) := by decide +kernel
theorem dX3_init_1 : decode cX3_init 1 = .ok (.invokespecial 3, 3) := by decide +kernel
theorem dX3_init_4 : decode cX3_init 4 = .ok (.aload_n 0, 1) := by decide +kernel
theorem dX3_init_5 : decode cX3_init 5 = .ok (.bipush 60, 2) := by decide +kernel
theorem dX3_init_7 : decode cX3_init 7 = .ok (.newarray .int, 2) := by decide +kernel
theorem dX3_init_9 : decode cX3_init 9 = .ok (.putfield 9, 3) := by decide +kernel
theorem dX3_init_12 : decode cX3_init 12 = .ok (.return_, 1) := by decide +kernel
theorem dX3_length_0 : decode cX3_length 0 = .ok (.aload_n 0, 1) := by decide +kernel
theorem dX3_length_1 : decode cX3_length 1 = .ok (.getfield 15, 3) := by decide +kernel
theorem dX3_length_4 : decode cX3_length 4 = .ok (.ireturn, 1) := by decide +kernel
theorem dX3_append_0 : decode cX3_append 0 = .ok (.aload_n 0, 1) := by decide +kernel
theorem dX3_append_1 : decode cX3_append 1 = .ok (.getfield 15, 3) := by decide +kernel
theorem dX3_append_4 : decode cX3_append 4 = .ok (.ifCond .lt 15, 3) := by decide +kernel
theorem dX3_append_7 : decode cX3_append 7 = .ok (.aload_n 0, 1) := by decide +kernel
theorem dX3_append_8 : decode cX3_append 8 = .ok (.getfield 15, 3) := by decide +kernel
theorem dX3_append_11 : decode cX3_append 11 = .ok (.aload_n 0, 1) := by decide +kernel
theorem dX3_append_12 : decode cX3_append 12 = .ok (.getfield 9, 3) := by decide +kernel
theorem dX3_append_15 : decode cX3_append 15 = .ok (.arraylength, 1) := by decide +kernel
theorem dX3_append_16 : decode cX3_append 16 = .ok (.if_icmp .lt 6, 3) := by decide +kernel
theorem dX3_append_19 : decode cX3_append 19 = .ok (.ldc 19, 2) := by decide +kernel
theorem dX3_append_21 : decode cX3_append 21 = .ok (.ireturn, 1) := by decide +kernel
theorem dX3_append_22 : decode cX3_append 22 = .ok (.aload_n 0, 1) := by decide +kernel
theorem dX3_append_23 : decode cX3_append 23 = .ok (.getfield 9, 3) := by decide +kernel
theorem dX3_append_26 : decode cX3_append 26 = .ok (.aload_n 0, 1) := by decide +kernel
theorem dX3_append_27 : decode cX3_append 27 = .ok (.getfield 15, 3) := by decide +kernel
theorem dX3_append_30 : decode cX3_append 30 = .ok (.iload_n 1, 1) := by decide +kernel
theorem dX3_append_31 : decode cX3_append 31 = .ok (.iastore, 1) := by decide +kernel
theorem dX3_append_32 : decode cX3_append 32 = .ok (.aload_n 0, 1) := by decide +kernel
theorem dX3_append_33 : decode cX3_append 33 = .ok (.dup, 1) := by decide +kernel
theorem dX3_append_34 : decode cX3_append 34 = .ok (.getfield 15, 3) := by decide +kernel
theorem dX3_append_37 : decode cX3_append 37 = .ok (.iconst 1, 1) := by decide +kernel
theorem dX3_append_38 : decode cX3_append 38 = .ok (.iadd, 1) := by decide +kernel
theorem dX3_append_39 : decode cX3_append 39 = .ok (.putfield 15, 3) := by decide +kernel
theorem dX3_append_42 : decode cX3_append 42 = .ok (.aload_n 0, 1) := by decide +kernel
theorem dX3_append_43 : decode cX3_append 43 = .ok (.getfield 15, 3) := by decide +kernel
theorem dX3_append_46 : decode cX3_append 46 = .ok (.ireturn, 1) := by decide +kernel
theorem dX3_empty_0 : decode cX3_empty 0 = .ok (.aload_n 0, 1) := by decide +kernel
theorem dX3_empty_1 : decode cX3_empty 1 = .ok (.getfield 15, 3) := by decide +kernel
theorem dX3_empty_4 : decode cX3_empty 4 = .ok (.istore_n 1, 1) := by decide +kernel
theorem dX3_empty_5 : decode cX3_empty 5 = .ok (.aload_n 0, 1) := by decide +kernel
theorem dX3_empty_6 : decode cX3_empty 6 = .ok (.iconst 0, 1) := by decide +kernel
theorem dX3_empty_7 : decode cX3_empty 7 = .ok (.putfield 15, 3) := by decide +kernel
theorem dX3_empty_10 : decode cX3_empty 10 = .ok (.iload_n 1, 1) := by decide +kernel
theorem dX3_empty_11 : decode cX3_empty 11 = .ok (.ireturn, 1) := by decide +kernel
theorem dX3_ordersDone_0 : decode cX3_ordersDone 0 = .ok (.aload_n 0, 1) := by decide +kernel
theorem dX3_ordersDone_1 : decode cX3_ordersDone 1 = .ok (.getfield 20, 3) := by decide +kernel
theorem dX3_ordersDone_4 : decode cX3_ordersDone 4 = .ok (.ireturn, 1) := by decide +kernel
theorem dX3_tellOfFault_0 : decode cX3_tellOfFault 0 = .ok (.iload_n 1, 1) := by decide +kernel
theorem dX3_tellOfFault_1 : decode cX3_tellOfFault 1 = .ok (.lookupswitch 37 #[(0, 27), (1, 32)], 27) := by decide +kernel
theorem dX3_tellOfFault_28 : decode cX3_tellOfFault 28 = .ok (.aload_n 0, 1) := by decide +kernel
theorem dX3_tellOfFault_29 : decode cX3_tellOfFault 29 = .ok (.getfield 23, 3) := by decide +kernel
theorem dX3_tellOfFault_32 : decode cX3_tellOfFault 32 = .ok (.ireturn, 1) := by decide +kernel
theorem dX3_tellOfFault_33 : decode cX3_tellOfFault 33 = .ok (.aload_n 0, 1) := by decide +kernel
theorem dX3_tellOfFault_34 : decode cX3_tellOfFault 34 = .ok (.getfield 26, 3) := by decide +kernel
theorem dX3_tellOfFault_37 : decode cX3_tellOfFault 37 = .ok (.ireturn, 1) := by decide +kernel
theorem dX3_tellOfFault_38 : decode cX3_tellOfFault 38 = .ok (.aload_n 0, 1) := by decide +kernel
theorem dX3_tellOfFault_39 : decode cX3_tellOfFault 39 = .ok (.getfield 29, 3) := by decide +kernel
theorem dX3_tellOfFault_42 : decode cX3_tellOfFault 42 = .ok (.ireturn, 1) := by decide +kernel
set_option maxRecDepth 20000 in
theorem ggX3_perform_X3_readOrder : GoodIn wsX3_perform wsX3_readOrder := goodIn_r _ [14, 7, 1, 15, 16, 17, 13, 18, 3, 19, 20, 21, 22, 23, 8, 9, 24, 25, 26, 27, 28, 29, 30, 31, 32, 33, 34, 35, 36, 37, 38, 217, 218, 219, 220, 221, 222, 223, 224, 225, 226] (by decide +kernel) (by decide +kernel)
set_option maxRecDepth 20000 in
theorem gX3_perform_X3_readOrder : GoodIn wsX3_perform (wsV RX3 35 RX3 yX3_readOrder wsX3_readOrder) := goodIn_app (goodIn_of _ (by decide +kernel)) ggX3_perform_X3_readOrder
set_option maxRecDepth 20000 in
theorem ggX3_perform_X4_shift : GoodIn wsX3_perform wsX4_shift := goodIn_r _ [43, 44, 45, 46, 47, 32, 33, 34, 48, 49, 50, 51, 52, 53, 54, 55, 56, 57, 58, 59, 60, 61, 62, 63, 64, 65, 66, 67, 68, 69, 70, 71, 72, 73, 74, 75, 76, 77, 78, 79, 80, 81, 82, 83, 84, 85, 86, 87, 88, 89, 90, 91, 92, 93, 94, 95, 96, 97, 98, 99, 100, 101, 102, 227, 228, 229, 230, 231, 232, 233, 234, 235, 236, 237, 238, 239, 240, 241, 242] (by decide +kernel) (by decide +kernel)
set_option maxRecDepth 20000 in
theorem gX3_perform_X4_shift : GoodIn wsX3_perform (wsV RX3 48 RX4 yX4_shift wsX4_shift) := goodIn_app (goodIn_of _ (by decide +kernel)) ggX3_perform_X4_shift
set_option maxRecDepth 20000 in
theorem ggX3_perform_X4_look : GoodIn wsX3_perform wsX4_look := goodIn_r _ [106, 44, 45, 107, 108, 92, 109, 110, 111, 95, 96, 112, 113, 46, 114, 115, 32, 33, 34, 71, 72, 73, 51, 74, 75, 54, 55, 56, 57, 53, 79, 80, 81, 82, 83, 84, 85, 86, 68, 87, 70, 116, 117, 118, 119, 120, 121, 122, 123, 124, 125, 126, 127, 128, 129, 130, 131, 132, 133, 134, 135, 136, 137, 138, 139, 140, 141, 142, 143, 144, 145, 42, 146, 147, 47, 148, 48, 49, 50, 52, 149, 150, 151, 152, 153, 154, 155, 156, 157, 158, 159, 160, 161, 162, 163, 164, 165, 166, 167, 168, 169, 170, 171, 172, 76, 77, 78, 173, 174, 175, 176, 177, 178, 179, 180, 181, 182, 183, 184, 185, 186, 62, 187, 65, 66, 67, 69, 188, 189, 190, 191, 97, 98, 99, 100, 101, 102, 192, 193, 194, 195, 196, 197, 198, 199, 200, 91, 93, 201, 202, 203, 204, 205, 206, 207, 208, 209, 210, 211, 212, 213, 214, 215, 227, 228, 229, 230, 231, 232, 233, 234, 235, 236, 237, 238, 239, 240, 241, 242, 243, 244, 245, 246, 247] (by decide +kernel) (by decide +kernel)
set_option maxRecDepth 20000 in
theorem gX3_perform_X4_look : GoodIn wsX3_perform (wsV RX3 54 RX4 yX4_look wsX4_look) := goodIn_app (goodIn_of _ (by decide +kernel)) ggX3_perform_X4_look
set_option maxRecDepth 20000 in
theorem ggX3_perform_X4_renew : GoodIn wsX3_perform wsX4_renew := goodIn_r _ [146, 45, 46, 115, 147, 110, 47, 148, 48, 49, 50, 51, 52, 53, 142, 85, 86, 68, 87, 70, 149, 150, 151, 152, 153, 154, 155, 156, 157, 158, 159, 160, 161, 162, 163, 119, 164, 130, 121, 165, 166, 167, 168, 169, 170, 171, 172, 76, 33, 77, 78, 173, 174, 175, 176, 177, 178, 117, 118, 120, 179, 180, 181, 182, 54, 55, 56, 57, 183, 184, 185, 186, 62, 187, 65, 66, 67, 69, 71, 72, 73, 74, 75, 188, 189, 190, 191, 79, 80, 81, 82, 83, 84, 97, 98, 99, 100, 101, 102, 192, 193, 194, 195, 196, 197, 198, 199, 200, 91, 92, 93, 137, 95, 96, 201, 202, 203, 204, 205, 206, 207, 208, 209, 210, 211, 212, 213, 214, 215, 227, 228, 229, 230, 231, 232, 233, 234, 235, 236, 237, 238, 239, 240, 241, 242, 245, 246, 247, 243, 244] (by decide +kernel) (by decide +kernel)
set_option maxRecDepth 20000 in
theorem gX3_perform_X4_renew : GoodIn wsX3_perform (wsV RX3 57 RX4 yX4_renew wsX4_renew) := goodIn_app (goodIn_of _ (by decide +kernel)) ggX3_perform_X4_renew
theorem dX3_perform_0 : decode cX3_perform 0 = .ok (.aload_n 0, 1) := by decide +kernel
theorem dX3_perform_1 : decode cX3_perform 1 = .ok (.iconst 0, 1) := by decide +kernel
theorem dX3_perform_2 : decode cX3_perform 2 = .ok (.putfield 32, 3) := by decide +kernel
theorem dX3_perform_5 : decode cX3_perform 5 = .ok (.aload_n 0, 1) := by decide +kernel
theorem dX3_perform_6 : decode cX3_perform 6 = .ok (.iconst 0, 1) := by decide +kernel
theorem dX3_perform_7 : decode cX3_perform 7 = .ok (.putfield 20, 3) := by decide +kernel
theorem dX3_perform_10 : decode cX3_perform 10 = .ok (.iconst 0, 1) := by decide +kernel
theorem dX3_perform_11 : decode cX3_perform 11 = .ok (.istore_n 2, 1) := by decide +kernel
theorem dX3_perform_12 : decode cX3_perform 12 = .ok (.iload_n 2, 1) := by decide +kernel
theorem dX3_perform_13 : decode cX3_perform 13 = .ok (.bipush 60, 2) := by decide +kernel
theorem dX3_perform_15 : decode cX3_perform 15 = .ok (.if_icmp .ge 134, 3) := by decide +kernel
theorem dX3_perform_18 : decode cX3_perform 18 = .ok (.aload_n 0, 1) := by decide +kernel
theorem dX3_perform_19 : decode cX3_perform 19 = .ok (.getfield 32, 3) := by decide +kernel
theorem dX3_perform_22 : decode cX3_perform 22 = .ok (.aload_n 0, 1) := by decide +kernel
theorem dX3_perform_23 : decode cX3_perform 23 = .ok (.getfield 15, 3) := by decide +kernel
theorem dX3_perform_26 : decode cX3_perform 26 = .ok (.if_icmp .ge 123, 3) := by decide +kernel
theorem dX3_perform_29 : decode cX3_perform 29 = .ok (.aload_n 0, 1) := by decide +kernel
theorem dX3_perform_30 : decode cX3_perform 30 = .ok (.aload_n 0, 1) := by decide +kernel
theorem dX3_perform_31 : decode cX3_perform 31 = .ok (.getfield 32, 3) := by decide +kernel
theorem dX3_perform_34 : decode cX3_perform 34 = .ok (.putfield 23, 3) := by decide +kernel
theorem dX3_perform_37 : decode cX3_perform 37 = .ok (.aload_n 0, 1) := by decide +kernel
theorem dX3_perform_38 : decode cX3_perform 38 = .ok (.invokevirtual 35, 3) := by decide +kernel
theorem dX3_perform_41 : decode cX3_perform 41 = .ok (.ifCond .ne 23, 3) := by decide +kernel
theorem dX3_perform_44 : decode cX3_perform 44 = .ok (.aload_n 0, 1) := by decide +kernel
theorem dX3_perform_45 : decode cX3_perform 45 = .ok (.iconst 1, 1) := by decide +kernel
theorem dX3_perform_46 : decode cX3_perform 46 = .ok (.putfield 26, 3) := by decide +kernel
theorem dX3_perform_49 : decode cX3_perform 49 = .ok (.aload_n 0, 1) := by decide +kernel
theorem dX3_perform_50 : decode cX3_perform 50 = .ok (.aload_n 0, 1) := by decide +kernel
theorem dX3_perform_51 : decode cX3_perform 51 = .ok (.getfield 32, 3) := by decide +kernel
theorem dX3_perform_54 : decode cX3_perform 54 = .ok (.aload_n 0, 1) := by decide +kernel
theorem dX3_perform_55 : decode cX3_perform 55 = .ok (.getfield 23, 3) := by decide +kernel
theorem dX3_perform_58 : decode cX3_perform 58 = .ok (.isub, 1) := by decide +kernel
theorem dX3_perform_59 : decode cX3_perform 59 = .ok (.putfield 29, 3) := by decide +kernel
theorem dX3_perform_62 : decode cX3_perform 62 = .ok (.iconst 0, 1) := by decide +kernel
theorem dX3_perform_63 : decode cX3_perform 63 = .ok (.ireturn, 1) := by decide +kernel
theorem dX3_perform_64 : decode cX3_perform 64 = .ok (.aload_n 0, 1) := by decide +kernel
theorem dX3_perform_65 : decode cX3_perform 65 = .ok (.getfield 39, 3) := by decide +kernel
theorem dX3_perform_68 : decode cX3_perform 68 = .ok (.bipush 109, 2) := by decide +kernel
theorem dX3_perform_70 : decode cX3_perform 70 = .ok (.if_icmp .ne 18, 3) := by decide +kernel
theorem dX3_perform_73 : decode cX3_perform 73 = .ok (.aload_n 1, 1) := by decide +kernel
theorem dX3_perform_74 : decode cX3_perform 74 = .ok (.aload_n 0, 1) := by decide +kernel
theorem dX3_perform_75 : decode cX3_perform 75 = .ok (.getfield 42, 3) := by decide +kernel
theorem dX3_perform_78 : decode cX3_perform 78 = .ok (.aload_n 0, 1) := by decide +kernel
theorem dX3_perform_79 : decode cX3_perform 79 = .ok (.getfield 45, 3) := by decide +kernel
theorem dX3_perform_82 : decode cX3_perform 82 = .ok (.invokevirtual 48, 3) := by decide +kernel
theorem dX3_perform_85 : decode cX3_perform 85 = .ok (.goto 31, 3) := by decide +kernel
theorem dX3_perform_88 : decode cX3_perform 88 = .ok (.aload_n 0, 1) := by decide +kernel
theorem dX3_perform_89 : decode cX3_perform 89 = .ok (.getfield 39, 3) := by decide +kernel
theorem dX3_perform_92 : decode cX3_perform 92 = .ok (.bipush 111, 2) := by decide +kernel
theorem dX3_perform_94 : decode cX3_perform 94 = .ok (.if_icmp .ne 18, 3) := by decide +kernel
theorem dX3_perform_97 : decode cX3_perform 97 = .ok (.aload_n 1, 1) := by decide +kernel
theorem dX3_perform_98 : decode cX3_perform 98 = .ok (.aload_n 0, 1) := by decide +kernel
theorem dX3_perform_99 : decode cX3_perform 99 = .ok (.getfield 42, 3) := by decide +kernel
theorem dX3_perform_102 : decode cX3_perform 102 = .ok (.aload_n 0, 1) := by decide +kernel
theorem dX3_perform_103 : decode cX3_perform 103 = .ok (.getfield 45, 3) := by decide +kernel
theorem dX3_perform_106 : decode cX3_perform 106 = .ok (.invokevirtual 54, 3) := by decide +kernel
theorem dX3_perform_109 : decode cX3_perform 109 = .ok (.goto 7, 3) := by decide +kernel
theorem dX3_perform_112 : decode cX3_perform 112 = .ok (.aload_n 1, 1) := by decide +kernel
theorem dX3_perform_113 : decode cX3_perform 113 = .ok (.invokevirtual 57, 3) := by decide +kernel
theorem dX3_perform_116 : decode cX3_perform 116 = .ok (.istore_n 3, 1) := by decide +kernel
theorem dX3_perform_117 : decode cX3_perform 117 = .ok (.iload_n 3, 1) := by decide +kernel
theorem dX3_perform_118 : decode cX3_perform 118 = .ok (.ifCond .ge 15, 3) := by decide +kernel
theorem dX3_perform_121 : decode cX3_perform 121 = .ok (.aload_n 0, 1) := by decide +kernel
theorem dX3_perform_122 : decode cX3_perform 122 = .ok (.iconst 2, 1) := by decide +kernel
theorem dX3_perform_123 : decode cX3_perform 123 = .ok (.putfield 26, 3) := by decide +kernel
theorem dX3_perform_126 : decode cX3_perform 126 = .ok (.aload_n 0, 1) := by decide +kernel
theorem dX3_perform_127 : decode cX3_perform 127 = .ok (.iload_n 3, 1) := by decide +kernel
theorem dX3_perform_128 : decode cX3_perform 128 = .ok (.putfield 29, 3) := by decide +kernel
theorem dX3_perform_131 : decode cX3_perform 131 = .ok (.iconst 0, 1) := by decide +kernel
theorem dX3_perform_132 : decode cX3_perform 132 = .ok (.ireturn, 1) := by decide +kernel
theorem dX3_perform_133 : decode cX3_perform 133 = .ok (.aload_n 0, 1) := by decide +kernel
theorem dX3_perform_134 : decode cX3_perform 134 = .ok (.dup, 1) := by decide +kernel
theorem dX3_perform_135 : decode cX3_perform 135 = .ok (.getfield 20, 3) := by decide +kernel
theorem dX3_perform_138 : decode cX3_perform 138 = .ok (.iconst 1, 1) := by decide +kernel
theorem dX3_perform_139 : decode cX3_perform 139 = .ok (.iadd, 1) := by decide +kernel
theorem dX3_perform_140 : decode cX3_perform 140 = .ok (.putfield 20, 3) := by decide +kernel
theorem dX3_perform_143 : decode cX3_perform 143 = .ok (.iinc 2 1, 3) := by decide +kernel
theorem dX3_perform_146 : decode cX3_perform 146 = .ok (.goto (-134), 3) := by decide +kernel
theorem dX3_perform_149 : decode cX3_perform 149 = .ok (.iconst 1, 1) := by decide +kernel
theorem dX3_perform_150 : decode cX3_perform 150 = .ok (.ireturn, 1) := by decide +kernel
set_option maxRecDepth 20000 in
theorem ggX3_readOrder_X3_here : GoodIn wsX3_readOrder wsX3_here := goodIn_r _ [7, 2, 8, 9, 31, 32, 33, 34, 35, 36, 37, 38, 39, 40] (by decide +kernel) (by decide +kernel)
set_option maxRecDepth 20000 in
theorem gX3_readOrder_X3_here : GoodIn wsX3_readOrder (wsV RX3 61 RX3 yX3_here wsX3_here) := goodIn_app (goodIn_of _ (by decide +kernel)) ggX3_readOrder_X3_here
set_option maxRecDepth 20000 in
theorem ggX3_readOrder_X3_readNumbers : GoodIn wsX3_readOrder wsX3_readNumbers := goodIn_r _ [13, 1, 14, 15, 16, 17, 18, 6, 19, 2, 3, 4, 5, 7, 8, 9, 20, 21, 22, 23, 24, 25, 26, 27, 28, 29, 30, 31, 32, 33, 34, 35, 36, 37, 38, 39, 40] (by decide +kernel) (by decide +kernel)
set_option maxRecDepth 20000 in
theorem gX3_readOrder_X3_readNumbers : GoodIn wsX3_readOrder (wsV RX3 64 RX3 yX3_readNumbers wsX3_readNumbers) := goodIn_app (goodIn_of _ (by decide +kernel)) ggX3_readOrder_X3_readNumbers
set_option maxRecDepth 20000 in
theorem ggX3_readOrder_X3_pass : GoodIn wsX3_readOrder wsX3_pass := goodIn_r _ [19, 2, 3, 4, 5, 6, 7, 8, 9, 31, 32, 33, 34, 35, 36, 37, 38, 39, 40] (by decide +kernel) (by decide +kernel)
set_option maxRecDepth 20000 in
theorem gX3_readOrder_X3_pass : GoodIn wsX3_readOrder (wsV RX3 67 RX3 yX3_pass wsX3_pass) := goodIn_app (goodIn_of _ (by decide +kernel)) ggX3_readOrder_X3_pass
theorem dX3_readOrder_0 : decode cX3_readOrder 0 = .ok (.aload_n 0, 1) := by decide +kernel
theorem dX3_readOrder_1 : decode cX3_readOrder 1 = .ok (.aload_n 0, 1) := by decide +kernel
theorem dX3_readOrder_2 : decode cX3_readOrder 2 = .ok (.invokevirtual 61, 3) := by decide +kernel
theorem dX3_readOrder_5 : decode cX3_readOrder 5 = .ok (.putfield 39, 3) := by decide +kernel
theorem dX3_readOrder_8 : decode cX3_readOrder 8 = .ok (.aload_n 0, 1) := by decide +kernel
theorem dX3_readOrder_9 : decode cX3_readOrder 9 = .ok (.getfield 39, 3) := by decide +kernel
theorem dX3_readOrder_12 : decode cX3_readOrder 12 = .ok (.bipush 109, 2) := by decide +kernel
theorem dX3_readOrder_14 : decode cX3_readOrder 14 = .ok (.if_icmp .eq 23, 3) := by decide +kernel
theorem dX3_readOrder_17 : decode cX3_readOrder 17 = .ok (.aload_n 0, 1) := by decide +kernel
theorem dX3_readOrder_18 : decode cX3_readOrder 18 = .ok (.getfield 39, 3) := by decide +kernel
theorem dX3_readOrder_21 : decode cX3_readOrder 21 = .ok (.bipush 111, 2) := by decide +kernel
theorem dX3_readOrder_23 : decode cX3_readOrder 23 = .ok (.if_icmp .eq 14, 3) := by decide +kernel
theorem dX3_readOrder_26 : decode cX3_readOrder 26 = .ok (.aload_n 0, 1) := by decide +kernel
theorem dX3_readOrder_27 : decode cX3_readOrder 27 = .ok (.getfield 39, 3) := by decide +kernel
theorem dX3_readOrder_30 : decode cX3_readOrder 30 = .ok (.bipush 114, 2) := by decide +kernel
theorem dX3_readOrder_32 : decode cX3_readOrder 32 = .ok (.if_icmp .eq 5, 3) := by decide +kernel
theorem dX3_readOrder_35 : decode cX3_readOrder 35 = .ok (.iconst 0, 1) := by decide +kernel
theorem dX3_readOrder_36 : decode cX3_readOrder 36 = .ok (.ireturn, 1) := by decide +kernel
theorem dX3_readOrder_37 : decode cX3_readOrder 37 = .ok (.aload_n 0, 1) := by decide +kernel
theorem dX3_readOrder_38 : decode cX3_readOrder 38 = .ok (.dup, 1) := by decide +kernel
theorem dX3_readOrder_39 : decode cX3_readOrder 39 = .ok (.getfield 32, 3) := by decide +kernel
theorem dX3_readOrder_42 : decode cX3_readOrder 42 = .ok (.iconst 1, 1) := by decide +kernel
theorem dX3_readOrder_43 : decode cX3_readOrder 43 = .ok (.iadd, 1) := by decide +kernel
theorem dX3_readOrder_44 : decode cX3_readOrder 44 = .ok (.putfield 32, 3) := by decide +kernel
theorem dX3_readOrder_47 : decode cX3_readOrder 47 = .ok (.aload_n 0, 1) := by decide +kernel
theorem dX3_readOrder_48 : decode cX3_readOrder 48 = .ok (.getfield 39, 3) := by decide +kernel
theorem dX3_readOrder_51 : decode cX3_readOrder 51 = .ok (.bipush 114, 2) := by decide +kernel
theorem dX3_readOrder_53 : decode cX3_readOrder 53 = .ok (.if_icmp .eq 10, 3) := by decide +kernel
theorem dX3_readOrder_56 : decode cX3_readOrder 56 = .ok (.aload_n 0, 1) := by decide +kernel
theorem dX3_readOrder_57 : decode cX3_readOrder 57 = .ok (.invokevirtual 64, 3) := by decide +kernel
theorem dX3_readOrder_60 : decode cX3_readOrder 60 = .ok (.ifCond .eq 16, 3) := by decide +kernel
theorem dX3_readOrder_63 : decode cX3_readOrder 63 = .ok (.aload_n 0, 1) := by decide +kernel
theorem dX3_readOrder_64 : decode cX3_readOrder 64 = .ok (.bipush 59, 2) := by decide +kernel
theorem dX3_readOrder_66 : decode cX3_readOrder 66 = .ok (.invokevirtual 67, 3) := by decide +kernel
theorem dX3_readOrder_69 : decode cX3_readOrder 69 = .ok (.ifCond .eq 7, 3) := by decide +kernel
theorem dX3_readOrder_72 : decode cX3_readOrder 72 = .ok (.iconst 1, 1) := by decide +kernel
theorem dX3_readOrder_73 : decode cX3_readOrder 73 = .ok (.goto 4, 3) := by decide +kernel
theorem dX3_readOrder_76 : decode cX3_readOrder 76 = .ok (.iconst 0, 1) := by decide +kernel
theorem dX3_readOrder_77 : decode cX3_readOrder 77 = .ok (.ireturn, 1) := by decide +kernel
set_option maxRecDepth 20000 in
theorem ggX3_readNumbers_X3_pass : GoodIn wsX3_readNumbers wsX3_pass := goodIn_r _ [8, 9, 10, 11, 12, 7, 13, 14, 15, 27, 28, 29, 30, 31, 32, 33, 34, 35, 36] (by decide +kernel) (by decide +kernel)
set_option maxRecDepth 20000 in
theorem gX3_readNumbers_X3_pass : GoodIn wsX3_readNumbers (wsV RX3 67 RX3 yX3_pass wsX3_pass) := goodIn_app (goodIn_of _ (by decide +kernel)) ggX3_readNumbers_X3_pass
set_option maxRecDepth 20000 in
theorem ggX3_readNumbers_X3_isDigitHere : GoodIn wsX3_readNumbers wsX3_isDigitHere := goodIn_r _ [19, 10, 11, 12, 7, 13, 9, 14, 15, 20, 21, 22, 27, 28, 29, 30, 31, 32, 33, 34, 35, 36] (by decide +kernel) (by decide +kernel)
set_option maxRecDepth 20000 in
theorem gX3_readNumbers_X3_isDigitHere : GoodIn wsX3_readNumbers (wsV RX3 71 RX3 yX3_isDigitHere wsX3_isDigitHere) := goodIn_app (goodIn_of _ (by decide +kernel)) ggX3_readNumbers_X3_isDigitHere
set_option maxRecDepth 20000 in
theorem ggX3_readNumbers_X3_readNumber : GoodIn wsX3_readNumbers wsX3_readNumber := goodIn_r _ [26, 9, 16, 17, 18, 7, 19, 10, 11, 12, 13, 14, 15, 20, 21, 22, 27, 28, 29, 30, 31, 32, 33, 34, 35, 36] (by decide +kernel) (by decide +kernel)
set_option maxRecDepth 20000 in
theorem gX3_readNumbers_X3_readNumber : GoodIn wsX3_readNumbers (wsV RX3 74 RX3 yX3_readNumber wsX3_readNumber) := goodIn_app (goodIn_of _ (by decide +kernel)) ggX3_readNumbers_X3_readNumber
theorem dX3_readNumbers_0 : decode cX3_readNumbers 0 = .ok (.aload_n 0, 1) := by decide +kernel
theorem dX3_readNumbers_1 : decode cX3_readNumbers 1 = .ok (.getfield 39, 3) := by decide +kernel
theorem dX3_readNumbers_4 : decode cX3_readNumbers 4 = .ok (.bipush 109, 2) := by decide +kernel
theorem dX3_readNumbers_6 : decode cX3_readNumbers 6 = .ok (.if_icmp .ne 16, 3) := by decide +kernel
theorem dX3_readNumbers_9 : decode cX3_readNumbers 9 = .ok (.aload_n 0, 1) := by decide +kernel
theorem dX3_readNumbers_10 : decode cX3_readNumbers 10 = .ok (.bipush 45, 2) := by decide +kernel
theorem dX3_readNumbers_12 : decode cX3_readNumbers 12 = .ok (.invokevirtual 67, 3) := by decide +kernel
theorem dX3_readNumbers_15 : decode cX3_readNumbers 15 = .ok (.ifCond .eq 7, 3) := by decide +kernel
theorem dX3_readNumbers_18 : decode cX3_readNumbers 18 = .ok (.iconst 1, 1) := by decide +kernel
theorem dX3_readNumbers_19 : decode cX3_readNumbers 19 = .ok (.goto 4, 3) := by decide +kernel
theorem dX3_readNumbers_22 : decode cX3_readNumbers 22 = .ok (.iconst 0, 1) := by decide +kernel
theorem dX3_readNumbers_23 : decode cX3_readNumbers 23 = .ok (.istore_n 1, 1) := by decide +kernel
theorem dX3_readNumbers_24 : decode cX3_readNumbers 24 = .ok (.aload_n 0, 1) := by decide +kernel
theorem dX3_readNumbers_25 : decode cX3_readNumbers 25 = .ok (.invokevirtual 71, 3) := by decide +kernel
theorem dX3_readNumbers_28 : decode cX3_readNumbers 28 = .ok (.ifCond .ne 5, 3) := by decide +kernel
theorem dX3_readNumbers_31 : decode cX3_readNumbers 31 = .ok (.iconst 0, 1) := by decide +kernel
theorem dX3_readNumbers_32 : decode cX3_readNumbers 32 = .ok (.ireturn, 1) := by decide +kernel
theorem dX3_readNumbers_33 : decode cX3_readNumbers 33 = .ok (.aload_n 0, 1) := by decide +kernel
theorem dX3_readNumbers_34 : decode cX3_readNumbers 34 = .ok (.invokevirtual 74, 3) := by decide +kernel
theorem dX3_readNumbers_37 : decode cX3_readNumbers 37 = .ok (.istore_n 2, 1) := by decide +kernel
theorem dX3_readNumbers_38 : decode cX3_readNumbers 38 = .ok (.aload_n 0, 1) := by decide +kernel
theorem dX3_readNumbers_39 : decode cX3_readNumbers 39 = .ok (.iload_n 1, 1) := by decide +kernel
theorem dX3_readNumbers_40 : decode cX3_readNumbers 40 = .ok (.ifCond .eq 8, 3) := by decide +kernel
theorem dX3_readNumbers_43 : decode cX3_readNumbers 43 = .ok (.iload_n 2, 1) := by decide +kernel
theorem dX3_readNumbers_44 : decode cX3_readNumbers 44 = .ok (.ineg, 1) := by decide +kernel
theorem dX3_readNumbers_45 : decode cX3_readNumbers 45 = .ok (.goto 4, 3) := by decide +kernel
theorem dX3_readNumbers_48 : decode cX3_readNumbers 48 = .ok (.iload_n 2, 1) := by decide +kernel
theorem dX3_readNumbers_49 : decode cX3_readNumbers 49 = .ok (.putfield 42, 3) := by decide +kernel
theorem dX3_readNumbers_52 : decode cX3_readNumbers 52 = .ok (.aload_n 0, 1) := by decide +kernel
theorem dX3_readNumbers_53 : decode cX3_readNumbers 53 = .ok (.bipush 44, 2) := by decide +kernel
theorem dX3_readNumbers_55 : decode cX3_readNumbers 55 = .ok (.invokevirtual 67, 3) := by decide +kernel
theorem dX3_readNumbers_58 : decode cX3_readNumbers 58 = .ok (.ifCond .eq 10, 3) := by decide +kernel
theorem dX3_readNumbers_61 : decode cX3_readNumbers 61 = .ok (.aload_n 0, 1) := by decide +kernel
theorem dX3_readNumbers_62 : decode cX3_readNumbers 62 = .ok (.invokevirtual 71, 3) := by decide +kernel
theorem dX3_readNumbers_65 : decode cX3_readNumbers 65 = .ok (.ifCond .ne 5, 3) := by decide +kernel
theorem dX3_readNumbers_68 : decode cX3_readNumbers 68 = .ok (.iconst 0, 1) := by decide +kernel
theorem dX3_readNumbers_69 : decode cX3_readNumbers 69 = .ok (.ireturn, 1) := by decide +kernel
theorem dX3_readNumbers_70 : decode cX3_readNumbers 70 = .ok (.aload_n 0, 1) := by decide +kernel
theorem dX3_readNumbers_71 : decode cX3_readNumbers 71 = .ok (.aload_n 0, 1) := by decide +kernel
theorem dX3_readNumbers_72 : decode cX3_readNumbers 72 = .ok (.invokevirtual 74, 3) := by decide +kernel
theorem dX3_readNumbers_75 : decode cX3_readNumbers 75 = .ok (.putfield 45, 3) := by decide +kernel
theorem dX3_readNumbers_78 : decode cX3_readNumbers 78 = .ok (.iconst 1, 1) := by decide +kernel
theorem dX3_readNumbers_79 : decode cX3_readNumbers 79 = .ok (.ireturn, 1) := by decide +kernel
set_option maxRecDepth 20000 in
theorem ggX3_readNumber_X3_isDigitHere : GoodIn wsX3_readNumber wsX3_isDigitHere := goodIn_r _ [6, 7, 8, 9, 5, 10, 1, 11, 12, 13, 14, 15, 16, 17, 18, 19, 20, 21, 22, 23, 24, 25] (by decide +kernel) (by decide +kernel)
set_option maxRecDepth 20000 in
theorem gX3_readNumber_X3_isDigitHere : GoodIn wsX3_readNumber (wsV RX3 71 RX3 yX3_isDigitHere wsX3_isDigitHere) := goodIn_app (goodIn_of _ (by decide +kernel)) ggX3_readNumber_X3_isDigitHere
set_option maxRecDepth 20000 in
theorem ggX3_readNumber_X3_here : GoodIn wsX3_readNumber wsX3_here := goodIn_r _ [10, 1, 11, 12, 16, 17, 18, 19, 20, 21, 22, 23, 24, 25] (by decide +kernel) (by decide +kernel)
set_option maxRecDepth 20000 in
theorem gX3_readNumber_X3_here : GoodIn wsX3_readNumber (wsV RX3 61 RX3 yX3_here wsX3_here) := goodIn_app (goodIn_of _ (by decide +kernel)) ggX3_readNumber_X3_here
theorem dX3_readNumber_0 : decode cX3_readNumber 0 = .ok (.iconst 0, 1) := by decide +kernel
theorem dX3_readNumber_1 : decode cX3_readNumber 1 = .ok (.istore_n 1, 1) := by decide +kernel
theorem dX3_readNumber_2 : decode cX3_readNumber 2 = .ok (.iconst 0, 1) := by decide +kernel
theorem dX3_readNumber_3 : decode cX3_readNumber 3 = .ok (.istore_n 2, 1) := by decide +kernel
theorem dX3_readNumber_4 : decode cX3_readNumber 4 = .ok (.iload_n 2, 1) := by decide +kernel
theorem dX3_readNumber_5 : decode cX3_readNumber 5 = .ok (.iconst 2, 1) := by decide +kernel
theorem dX3_readNumber_6 : decode cX3_readNumber 6 = .ok (.if_icmp .ge 39, 3) := by decide +kernel
theorem dX3_readNumber_9 : decode cX3_readNumber 9 = .ok (.aload_n 0, 1) := by decide +kernel
theorem dX3_readNumber_10 : decode cX3_readNumber 10 = .ok (.invokevirtual 71, 3) := by decide +kernel
theorem dX3_readNumber_13 : decode cX3_readNumber 13 = .ok (.ifCond .eq 32, 3) := by decide +kernel
theorem dX3_readNumber_16 : decode cX3_readNumber 16 = .ok (.iload_n 1, 1) := by decide +kernel
theorem dX3_readNumber_17 : decode cX3_readNumber 17 = .ok (.bipush 10, 2) := by decide +kernel
theorem dX3_readNumber_19 : decode cX3_readNumber 19 = .ok (.imul, 1) := by decide +kernel
theorem dX3_readNumber_20 : decode cX3_readNumber 20 = .ok (.aload_n 0, 1) := by decide +kernel
theorem dX3_readNumber_21 : decode cX3_readNumber 21 = .ok (.invokevirtual 61, 3) := by decide +kernel
theorem dX3_readNumber_24 : decode cX3_readNumber 24 = .ok (.iadd, 1) := by decide +kernel
theorem dX3_readNumber_25 : decode cX3_readNumber 25 = .ok (.bipush 48, 2) := by decide +kernel
theorem dX3_readNumber_27 : decode cX3_readNumber 27 = .ok (.isub, 1) := by decide +kernel
theorem dX3_readNumber_28 : decode cX3_readNumber 28 = .ok (.istore_n 1, 1) := by decide +kernel
theorem dX3_readNumber_29 : decode cX3_readNumber 29 = .ok (.aload_n 0, 1) := by decide +kernel
theorem dX3_readNumber_30 : decode cX3_readNumber 30 = .ok (.dup, 1) := by decide +kernel
theorem dX3_readNumber_31 : decode cX3_readNumber 31 = .ok (.getfield 32, 3) := by decide +kernel
theorem dX3_readNumber_34 : decode cX3_readNumber 34 = .ok (.iconst 1, 1) := by decide +kernel
theorem dX3_readNumber_35 : decode cX3_readNumber 35 = .ok (.iadd, 1) := by decide +kernel
theorem dX3_readNumber_36 : decode cX3_readNumber 36 = .ok (.putfield 32, 3) := by decide +kernel
theorem dX3_readNumber_39 : decode cX3_readNumber 39 = .ok (.iinc 2 1, 3) := by decide +kernel
theorem dX3_readNumber_42 : decode cX3_readNumber 42 = .ok (.goto (-38), 3) := by decide +kernel
theorem dX3_readNumber_45 : decode cX3_readNumber 45 = .ok (.iload_n 1, 1) := by decide +kernel
theorem dX3_readNumber_46 : decode cX3_readNumber 46 = .ok (.ireturn, 1) := by decide +kernel
set_option maxRecDepth 20000 in
theorem ggX3_isDigitHere_X3_here : GoodIn wsX3_isDigitHere wsX3_here := goodIn_r _ [5, 6, 7, 8, 12, 13, 14, 15, 16, 17, 18, 19, 20, 21] (by decide +kernel) (by decide +kernel)
set_option maxRecDepth 20000 in
theorem gX3_isDigitHere_X3_here : GoodIn wsX3_isDigitHere (wsV RX3 61 RX3 yX3_here wsX3_here) := goodIn_app (goodIn_of _ (by decide +kernel)) ggX3_isDigitHere_X3_here
set_option maxRecDepth 20000 in
theorem ggX3_isDigitHere_X6_isWithin : GoodIn wsX3_isDigitHere wsX6_isWithin := goodIn_r _ [11] (by decide +kernel) (by decide +kernel)
set_option maxRecDepth 20000 in
theorem gX3_isDigitHere_X6_isWithin_n77 : GoodIn wsX3_isDigitHere (wsX6_isWithin) := ggX3_isDigitHere_X6_isWithin
theorem dX3_isDigitHere_0 : decode cX3_isDigitHere 0 = .ok (.aload_n 0, 1) := by decide +kernel
theorem dX3_isDigitHere_1 : decode cX3_isDigitHere 1 = .ok (.invokevirtual 61, 3) := by decide +kernel
theorem dX3_isDigitHere_4 : decode cX3_isDigitHere 4 = .ok (.bipush 48, 2) := by decide +kernel
theorem dX3_isDigitHere_6 : decode cX3_isDigitHere 6 = .ok (.bipush 57, 2) := by decide +kernel
theorem dX3_isDigitHere_8 : decode cX3_isDigitHere 8 = .ok (.invokestatic 77, 3) := by decide +kernel
theorem dX3_isDigitHere_11 : decode cX3_isDigitHere 11 = .ok (.ireturn, 1) := by decide +kernel
set_option maxRecDepth 20000 in
theorem ggX3_pass_X3_here : GoodIn wsX3_pass wsX3_here := goodIn_r _ [6, 1, 7, 8, 9, 10, 11, 12, 13, 14, 15, 16, 17, 18] (by decide +kernel) (by decide +kernel)
set_option maxRecDepth 20000 in
theorem gX3_pass_X3_here : GoodIn wsX3_pass (wsV RX3 61 RX3 yX3_here wsX3_here) := goodIn_app (goodIn_of _ (by decide +kernel)) ggX3_pass_X3_here
theorem dX3_pass_0 : decode cX3_pass 0 = .ok (.aload_n 0, 1) := by decide +kernel
theorem dX3_pass_1 : decode cX3_pass 1 = .ok (.invokevirtual 61, 3) := by decide +kernel
theorem dX3_pass_4 : decode cX3_pass 4 = .ok (.iload_n 1, 1) := by decide +kernel
theorem dX3_pass_5 : decode cX3_pass 5 = .ok (.if_icmp .eq 5, 3) := by decide +kernel
theorem dX3_pass_8 : decode cX3_pass 8 = .ok (.iconst 0, 1) := by decide +kernel
theorem dX3_pass_9 : decode cX3_pass 9 = .ok (.ireturn, 1) := by decide +kernel
theorem dX3_pass_10 : decode cX3_pass 10 = .ok (.aload_n 0, 1) := by decide +kernel
theorem dX3_pass_11 : decode cX3_pass 11 = .ok (.dup, 1) := by decide +kernel
theorem dX3_pass_12 : decode cX3_pass 12 = .ok (.getfield 32, 3) := by decide +kernel
theorem dX3_pass_15 : decode cX3_pass 15 = .ok (.iconst 1, 1) := by decide +kernel
theorem dX3_pass_16 : decode cX3_pass 16 = .ok (.iadd, 1) := by decide +kernel
theorem dX3_pass_17 : decode cX3_pass 17 = .ok (.putfield 32, 3) := by decide +kernel
theorem dX3_pass_20 : decode cX3_pass 20 = .ok (.iconst 1, 1) := by decide +kernel
theorem dX3_pass_21 : decode cX3_pass 21 = .ok (.ireturn, 1) := by decide +kernel
theorem dX3_here_0 : decode cX3_here 0 = .ok (.aload_n 0, 1) := by decide +kernel
theorem dX3_here_1 : decode cX3_here 1 = .ok (.getfield 32, 3) := by decide +kernel
theorem dX3_here_4 : decode cX3_here 4 = .ok (.ifCond .lt 26, 3) := by decide +kernel
theorem dX3_here_7 : decode cX3_here 7 = .ok (.aload_n 0, 1) := by decide +kernel
theorem dX3_here_8 : decode cX3_here 8 = .ok (.getfield 32, 3) := by decide +kernel
theorem dX3_here_11 : decode cX3_here 11 = .ok (.aload_n 0, 1) := by decide +kernel
theorem dX3_here_12 : decode cX3_here 12 = .ok (.getfield 15, 3) := by decide +kernel
theorem dX3_here_15 : decode cX3_here 15 = .ok (.if_icmp .ge 15, 3) := by decide +kernel
theorem dX3_here_18 : decode cX3_here 18 = .ok (.aload_n 0, 1) := by decide +kernel
theorem dX3_here_19 : decode cX3_here 19 = .ok (.getfield 32, 3) := by decide +kernel
theorem dX3_here_22 : decode cX3_here 22 = .ok (.aload_n 0, 1) := by decide +kernel
theorem dX3_here_23 : decode cX3_here 23 = .ok (.getfield 9, 3) := by decide +kernel
theorem dX3_here_26 : decode cX3_here 26 = .ok (.arraylength, 1) := by decide +kernel
theorem dX3_here_27 : decode cX3_here 27 = .ok (.if_icmp .lt 5, 3) := by decide +kernel
theorem dX3_here_30 : decode cX3_here 30 = .ok (.iconst 0, 1) := by decide +kernel
theorem dX3_here_31 : decode cX3_here 31 = .ok (.ireturn, 1) := by decide +kernel
theorem dX3_here_32 : decode cX3_here 32 = .ok (.aload_n 0, 1) := by decide +kernel
theorem dX3_here_33 : decode cX3_here 33 = .ok (.getfield 9, 3) := by decide +kernel
theorem dX3_here_36 : decode cX3_here 36 = .ok (.aload_n 0, 1) := by decide +kernel
theorem dX3_here_37 : decode cX3_here 37 = .ok (.getfield 32, 3) := by decide +kernel
theorem dX3_here_40 : decode cX3_here 40 = .ok (.iaload, 1) := by decide +kernel
theorem dX3_here_41 : decode cX3_here 41 = .ok (.ireturn, 1) := by decide +kernel
set_option maxRecDepth 20000 in
theorem ggX4_init_X1_init : GoodIn wsX4_init wsX1_init := goodIn_r _ [19, 20, 2, 3, 21, 13, 14, 22, 23, 24, 25, 26, 27, 28, 29, 30, 31, 32, 33, 34, 35, 36, 37, 38, 39, 94, 77, 78, 79, 80, 81, 82, 83, 84] (by decide +kernel) (by decide +kernel)
set_option maxRecDepth 20000 in
theorem gX4_init_X1_init : GoodIn wsX4_init (wsX1_init) := ggX4_init_X1_init
set_option maxRecDepth 20000 in
theorem ggX4_init_X5_init : GoodIn wsX4_init wsX5_init := goodIn_r _ [42, 43, 2, 3, 38, 44, 45, 92, 93] (by decide +kernel) (by decide +kernel)
set_option maxRecDepth 20000 in
theorem gX4_init_X5_init : GoodIn wsX4_init (wsX5_init) := ggX4_init_X5_init
set_option maxRecDepth 20000 in
theorem ggX4_init_X2_init : GoodIn wsX4_init wsX2_init := goodIn_r _ [32, 33, 2, 3, 34, 35, 36, 37, 38, 39, 94] (by decide +kernel) (by decide +kernel)
set_option maxRecDepth 20000 in
theorem gX4_init_X2_init : GoodIn wsX4_init (wsX2_init) := ggX4_init_X2_init
set_option maxRecDepth 20000 in
theorem ggX4_init_X2_put : GoodIn wsX4_init wsX2_put := goodIn_r _ [50, 39, 94] (by decide +kernel) (by decide +kernel)
set_option maxRecDepth 20000 in
theorem gX4_init_X2_put : GoodIn wsX4_init (wsV RX4 38 RX2 yX2_put wsX2_put) := goodIn_app (goodIn_of _ (by decide +kernel)) ggX4_init_X2_put
set_option maxRecDepth 20000 in
theorem ggX4_init_X4_startAnew : GoodIn wsX4_init wsX4_startAnew := goodIn_r _ [55, 7, 11, 56, 57, 58, 59, 60, 61, 6, 62, 28, 29, 24, 22, 63, 48, 49, 14, 50, 39, 64, 65, 66, 67, 68, 36, 69, 70, 35, 37, 71, 72, 73, 10, 74, 44, 75, 76, 45, 85, 86, 87, 88, 89, 90, 91, 77, 78, 79, 80, 81, 82, 83, 84, 94, 92, 93] (by decide +kernel) (by decide +kernel)
set_option maxRecDepth 20000 in
theorem gX4_init_X4_startAnew : GoodIn wsX4_init (wsV RX4 42 RX4 yX4_startAnew wsX4_startAnew) := goodIn_app (goodIn_of _ (by decide +kernel)) ggX4_init_X4_startAnew
theorem dX4_init_0 : decode cX4_init 0 = .ok (.aload_n 0, 1) := by decide +kernel
theorem dX4_init_1 : decode cX4_init 1 = .ok (.invokespecial 3, 3) := by decide +kernel
theorem dX4_init_4 : decode cX4_init 4 = .ok (.aload_n 0, 1) := by decide +kernel
theorem dX4_init_5 : decode cX4_init 5 = .ok (.new 9, 3) := by decide +kernel
theorem dX4_init_8 : decode cX4_init 8 = .ok (.dup, 1) := by decide +kernel
theorem dX4_init_9 : decode cX4_init 9 = .ok (.invokespecial 11, 3) := by decide +kernel
theorem dX4_init_12 : decode cX4_init 12 = .ok (.putfield 12, 3) := by decide +kernel
theorem dX4_init_15 : decode cX4_init 15 = .ok (.aload_n 0, 1) := by decide +kernel
theorem dX4_init_16 : decode cX4_init 16 = .ok (.new 18, 3) := by decide +kernel
theorem dX4_init_19 : decode cX4_init 19 = .ok (.dup, 1) := by decide +kernel
theorem dX4_init_20 : decode cX4_init 20 = .ok (.invokespecial 20, 3) := by decide +kernel
theorem dX4_init_23 : decode cX4_init 23 = .ok (.putfield 21, 3) := by decide +kernel
theorem dX4_init_26 : decode cX4_init 26 = .ok (.aload_n 0, 1) := by decide +kernel
theorem dX4_init_27 : decode cX4_init 27 = .ok (.new 25, 3) := by decide +kernel
theorem dX4_init_30 : decode cX4_init 30 = .ok (.dup, 1) := by decide +kernel
theorem dX4_init_31 : decode cX4_init 31 = .ok (.iconst 3, 1) := by decide +kernel
theorem dX4_init_32 : decode cX4_init 32 = .ok (.invokespecial 27, 3) := by decide +kernel
theorem dX4_init_35 : decode cX4_init 35 = .ok (.putfield 30, 3) := by decide +kernel
theorem dX4_init_38 : decode cX4_init 38 = .ok (.aload_n 0, 1) := by decide +kernel
theorem dX4_init_39 : decode cX4_init 39 = .ok (.aload_n 1, 1) := by decide +kernel
theorem dX4_init_40 : decode cX4_init 40 = .ok (.putfield 34, 3) := by decide +kernel
theorem dX4_init_43 : decode cX4_init 43 = .ok (.aload_n 0, 1) := by decide +kernel
theorem dX4_init_44 : decode cX4_init 44 = .ok (.getfield 30, 3) := by decide +kernel
theorem dX4_init_47 : decode cX4_init 47 = .ok (.iconst 0, 1) := by decide +kernel
theorem dX4_init_48 : decode cX4_init 48 = .ok (.iconst 3, 1) := by decide +kernel
theorem dX4_init_49 : decode cX4_init 49 = .ok (.invokevirtual 38, 3) := by decide +kernel
theorem dX4_init_52 : decode cX4_init 52 = .ok (.aload_n 0, 1) := by decide +kernel
theorem dX4_init_53 : decode cX4_init 53 = .ok (.getfield 30, 3) := by decide +kernel
theorem dX4_init_56 : decode cX4_init 56 = .ok (.iconst 1, 1) := by decide +kernel
theorem dX4_init_57 : decode cX4_init 57 = .ok (.iconst 0, 1) := by decide +kernel
theorem dX4_init_58 : decode cX4_init 58 = .ok (.invokevirtual 38, 3) := by decide +kernel
theorem dX4_init_61 : decode cX4_init 61 = .ok (.aload_n 0, 1) := by decide +kernel
theorem dX4_init_62 : decode cX4_init 62 = .ok (.getfield 30, 3) := by decide +kernel
theorem dX4_init_65 : decode cX4_init 65 = .ok (.iconst 2, 1) := by decide +kernel
theorem dX4_init_66 : decode cX4_init 66 = .ok (.bipush 50, 2) := by decide +kernel
theorem dX4_init_68 : decode cX4_init 68 = .ok (.invokevirtual 38, 3) := by decide +kernel
theorem dX4_init_71 : decode cX4_init 71 = .ok (.aload_n 0, 1) := by decide +kernel
theorem dX4_init_72 : decode cX4_init 72 = .ok (.iconst 4, 1) := by decide +kernel
theorem dX4_init_73 : decode cX4_init 73 = .ok (.iconst 0, 1) := by decide +kernel
theorem dX4_init_74 : decode cX4_init 74 = .ok (.bipush 10, 2) := by decide +kernel
theorem dX4_init_76 : decode cX4_init 76 = .ok (.invokevirtual 42, 3) := by decide +kernel
theorem dX4_init_79 : decode cX4_init 79 = .ok (.return_, 1) := by decide +kernel
set_option maxRecDepth 20000 in
theorem ggX4_copyState_X1_copyLineage : GoodIn wsX4_copyState wsX1_copyLineage := goodIn_r _ [11, 12, 13, 14, 15, 16, 17, 18, 19, 20, 21, 22, 23, 24, 25, 41, 42, 43, 44, 45, 46, 47, 48, 49] (by decide +kernel) (by decide +kernel)
set_option maxRecDepth 20000 in
theorem gX4_copyState_X1_copyLineage : GoodIn wsX4_copyState (wsV RX4 46 RX1 yX1_copyLineage wsX1_copyLineage) := goodIn_app (goodIn_of _ (by decide +kernel)) ggX4_copyState_X1_copyLineage
set_option maxRecDepth 20000 in
theorem ggX4_copyState_X5_copyWeights : GoodIn wsX4_copyState wsX5_copyWeights := goodIn_r _ [30, 31, 32, 50, 51] (by decide +kernel) (by decide +kernel)
set_option maxRecDepth 20000 in
theorem gX4_copyState_X5_copyWeights : GoodIn wsX4_copyState (wsV RX4 50 RX5 yX5_copyWeights wsX5_copyWeights) := goodIn_app (goodIn_of _ (by decide +kernel)) ggX4_copyState_X5_copyWeights
set_option maxRecDepth 20000 in
theorem ggX4_copyState_X2_copyRow : GoodIn wsX4_copyState wsX2_copyRow := goodIn_r _ [24, 25, 49] (by decide +kernel) (by decide +kernel)
set_option maxRecDepth 20000 in
theorem gX4_copyState_X2_copyRow : GoodIn wsX4_copyState (wsV RX4 54 RX2 yX2_copyRow wsX2_copyRow) := goodIn_app (goodIn_of _ (by decide +kernel)) ggX4_copyState_X2_copyRow
theorem dX4_copyState_0 : decode cX4_copyState 0 = .ok (.aload_n 0, 1) := by decide +kernel
theorem dX4_copyState_1 : decode cX4_copyState 1 = .ok (.getfield 12, 3) := by decide +kernel
theorem dX4_copyState_4 : decode cX4_copyState 4 = .ok (.aload_n 1, 1) := by decide +kernel
theorem dX4_copyState_5 : decode cX4_copyState 5 = .ok (.getfield 12, 3) := by decide +kernel
theorem dX4_copyState_8 : decode cX4_copyState 8 = .ok (.invokevirtual 46, 3) := by decide +kernel
theorem dX4_copyState_11 : decode cX4_copyState 11 = .ok (.aload_n 0, 1) := by decide +kernel
theorem dX4_copyState_12 : decode cX4_copyState 12 = .ok (.getfield 21, 3) := by decide +kernel
theorem dX4_copyState_15 : decode cX4_copyState 15 = .ok (.aload_n 1, 1) := by decide +kernel
theorem dX4_copyState_16 : decode cX4_copyState 16 = .ok (.getfield 21, 3) := by decide +kernel
theorem dX4_copyState_19 : decode cX4_copyState 19 = .ok (.invokevirtual 50, 3) := by decide +kernel
theorem dX4_copyState_22 : decode cX4_copyState 22 = .ok (.aload_n 0, 1) := by decide +kernel
theorem dX4_copyState_23 : decode cX4_copyState 23 = .ok (.getfield 30, 3) := by decide +kernel
theorem dX4_copyState_26 : decode cX4_copyState 26 = .ok (.aload_n 1, 1) := by decide +kernel
theorem dX4_copyState_27 : decode cX4_copyState 27 = .ok (.getfield 30, 3) := by decide +kernel
theorem dX4_copyState_30 : decode cX4_copyState 30 = .ok (.invokevirtual 54, 3) := by decide +kernel
theorem dX4_copyState_33 : decode cX4_copyState 33 = .ok (.aload_n 0, 1) := by decide +kernel
theorem dX4_copyState_34 : decode cX4_copyState 34 = .ok (.aload_n 1, 1) := by decide +kernel
theorem dX4_copyState_35 : decode cX4_copyState 35 = .ok (.getfield 58, 3) := by decide +kernel
theorem dX4_copyState_38 : decode cX4_copyState 38 = .ok (.putfield 58, 3) := by decide +kernel
theorem dX4_copyState_41 : decode cX4_copyState 41 = .ok (.aload_n 0, 1) := by decide +kernel
theorem dX4_copyState_42 : decode cX4_copyState 42 = .ok (.aload_n 1, 1) := by decide +kernel
theorem dX4_copyState_43 : decode cX4_copyState 43 = .ok (.getfield 62, 3) := by decide +kernel
theorem dX4_copyState_46 : decode cX4_copyState 46 = .ok (.putfield 62, 3) := by decide +kernel
theorem dX4_copyState_49 : decode cX4_copyState 49 = .ok (.aload_n 0, 1) := by decide +kernel
theorem dX4_copyState_50 : decode cX4_copyState 50 = .ok (.aload_n 1, 1) := by decide +kernel
theorem dX4_copyState_51 : decode cX4_copyState 51 = .ok (.getfield 65, 3) := by decide +kernel
theorem dX4_copyState_54 : decode cX4_copyState 54 = .ok (.putfield 65, 3) := by decide +kernel
theorem dX4_copyState_57 : decode cX4_copyState 57 = .ok (.return_, 1) := by decide +kernel
set_option maxRecDepth 20000 in
theorem ggX4_startAnew_X1_startWith : GoodIn wsX4_startAnew wsX1_startWith := goodIn_r _ [10, 11, 12, 13, 14, 15, 16, 17, 18, 19, 20, 21, 22, 23, 24, 25, 26, 27, 28, 29, 30, 47, 48, 49, 50, 51, 52, 53, 54, 55] (by decide +kernel) (by decide +kernel)
set_option maxRecDepth 20000 in
theorem gX4_startAnew_X1_startWith : GoodIn wsX4_startAnew (wsV RX4 68 RX1 yX1_startWith wsX1_startWith) := goodIn_app (goodIn_of _ (by decide +kernel)) ggX4_startAnew_X1_startWith
set_option maxRecDepth 20000 in
theorem ggX4_startAnew_X5_makeEqual : GoodIn wsX4_startAnew wsX5_makeEqual := goodIn_r _ [35, 36, 37, 25, 26, 27, 38, 29, 30, 39, 56, 57] (by decide +kernel) (by decide +kernel)
set_option maxRecDepth 20000 in
theorem gX4_startAnew_X5_makeEqual : GoodIn wsX4_startAnew (wsV RX4 71 RX5 yX5_makeEqual wsX5_makeEqual) := goodIn_app (goodIn_of _ (by decide +kernel)) ggX4_startAnew_X5_makeEqual
theorem dX4_startAnew_0 : decode cX4_startAnew 0 = .ok (.aload_n 0, 1) := by decide +kernel
theorem dX4_startAnew_1 : decode cX4_startAnew 1 = .ok (.getfield 12, 3) := by decide +kernel
theorem dX4_startAnew_4 : decode cX4_startAnew 4 = .ok (.iload_n 1, 1) := by decide +kernel
theorem dX4_startAnew_5 : decode cX4_startAnew 5 = .ok (.iload_n 2, 1) := by decide +kernel
theorem dX4_startAnew_6 : decode cX4_startAnew 6 = .ok (.iload_n 3, 1) := by decide +kernel
theorem dX4_startAnew_7 : decode cX4_startAnew 7 = .ok (.invokevirtual 68, 3) := by decide +kernel
theorem dX4_startAnew_10 : decode cX4_startAnew 10 = .ok (.aload_n 0, 1) := by decide +kernel
theorem dX4_startAnew_11 : decode cX4_startAnew 11 = .ok (.getfield 21, 3) := by decide +kernel
theorem dX4_startAnew_14 : decode cX4_startAnew 14 = .ok (.iload_n 1, 1) := by decide +kernel
theorem dX4_startAnew_15 : decode cX4_startAnew 15 = .ok (.invokevirtual 71, 3) := by decide +kernel
theorem dX4_startAnew_18 : decode cX4_startAnew 18 = .ok (.aload_n 0, 1) := by decide +kernel
theorem dX4_startAnew_19 : decode cX4_startAnew 19 = .ok (.iconst 1, 1) := by decide +kernel
theorem dX4_startAnew_20 : decode cX4_startAnew 20 = .ok (.putfield 58, 3) := by decide +kernel
theorem dX4_startAnew_23 : decode cX4_startAnew 23 = .ok (.aload_n 0, 1) := by decide +kernel
theorem dX4_startAnew_24 : decode cX4_startAnew 24 = .ok (.iconst 0, 1) := by decide +kernel
theorem dX4_startAnew_25 : decode cX4_startAnew 25 = .ok (.putfield 62, 3) := by decide +kernel
theorem dX4_startAnew_28 : decode cX4_startAnew 28 = .ok (.aload_n 0, 1) := by decide +kernel
theorem dX4_startAnew_29 : decode cX4_startAnew 29 = .ok (.iconst 0, 1) := by decide +kernel
theorem dX4_startAnew_30 : decode cX4_startAnew 30 = .ok (.putfield 65, 3) := by decide +kernel
theorem dX4_startAnew_33 : decode cX4_startAnew 33 = .ok (.return_, 1) := by decide +kernel
set_option maxRecDepth 20000 in
theorem ggX4_beginAnew_X6_isWithin : GoodIn wsX4_beginAnew wsX6_isWithin := goodIn_r _ [5] (by decide +kernel) (by decide +kernel)
set_option maxRecDepth 20000 in
theorem gX4_beginAnew_X6_isWithin_n74 : GoodIn wsX4_beginAnew (wsX6_isWithin) := ggX4_beginAnew_X6_isWithin
set_option maxRecDepth 20000 in
theorem ggX4_beginAnew_X1_generations : GoodIn wsX4_beginAnew wsX1_generations := goodIn_r _ [10, 11, 59, 60, 61, 62, 63, 64, 65, 66] (by decide +kernel) (by decide +kernel)
set_option maxRecDepth 20000 in
theorem gX4_beginAnew_X1_generations : GoodIn wsX4_beginAnew (wsV RX4 79 RX1 yX1_generations wsX1_generations) := goodIn_app (goodIn_of _ (by decide +kernel)) ggX4_beginAnew_X1_generations
set_option maxRecDepth 20000 in
theorem ggX4_beginAnew_X4_startAnew : GoodIn wsX4_beginAnew wsX4_startAnew := goodIn_r _ [16, 2, 17, 18, 19, 20, 21, 22, 23, 9, 24, 25, 11, 26, 27, 28, 29, 30, 31, 32, 33, 34, 4, 35, 36, 37, 38, 39, 40, 41, 42, 43, 44, 45, 46, 47, 48, 49, 50, 51, 52, 53, 54, 55, 56, 57, 58, 59, 60, 61, 62, 63, 64, 65, 66, 67, 68, 69] (by decide +kernel) (by decide +kernel)
set_option maxRecDepth 20000 in
theorem gX4_beginAnew_X4_startAnew : GoodIn wsX4_beginAnew (wsV RX4 42 RX4 yX4_startAnew wsX4_startAnew) := goodIn_app (goodIn_of _ (by decide +kernel)) ggX4_beginAnew_X4_startAnew
theorem dX4_beginAnew_0 : decode cX4_beginAnew 0 = .ok (.iload_n 1, 1) := by decide +kernel
theorem dX4_beginAnew_1 : decode cX4_beginAnew 1 = .ok (.iconst 1, 1) := by decide +kernel
theorem dX4_beginAnew_2 : decode cX4_beginAnew 2 = .ok (.bipush 12, 2) := by decide +kernel
theorem dX4_beginAnew_4 : decode cX4_beginAnew 4 = .ok (.invokestatic 74, 3) := by decide +kernel
theorem dX4_beginAnew_7 : decode cX4_beginAnew 7 = .ok (.ifCond .eq 23, 3) := by decide +kernel
theorem dX4_beginAnew_10 : decode cX4_beginAnew 10 = .ok (.iload_n 2, 1) := by decide +kernel
theorem dX4_beginAnew_11 : decode cX4_beginAnew 11 = .ok (.iconst 0, 1) := by decide +kernel
theorem dX4_beginAnew_12 : decode cX4_beginAnew 12 = .ok (.bipush 99, 2) := by decide +kernel
theorem dX4_beginAnew_14 : decode cX4_beginAnew 14 = .ok (.invokestatic 74, 3) := by decide +kernel
theorem dX4_beginAnew_17 : decode cX4_beginAnew 17 = .ok (.ifCond .eq 13, 3) := by decide +kernel
theorem dX4_beginAnew_20 : decode cX4_beginAnew 20 = .ok (.iload_n 3, 1) := by decide +kernel
theorem dX4_beginAnew_21 : decode cX4_beginAnew 21 = .ok (.iconst 0, 1) := by decide +kernel
theorem dX4_beginAnew_22 : decode cX4_beginAnew 22 = .ok (.bipush 99, 2) := by decide +kernel
theorem dX4_beginAnew_24 : decode cX4_beginAnew 24 = .ok (.invokestatic 74, 3) := by decide +kernel
theorem dX4_beginAnew_27 : decode cX4_beginAnew 27 = .ok (.ifCond .ne 6, 3) := by decide +kernel
theorem dX4_beginAnew_30 : decode cX4_beginAnew 30 = .ok (.ldc 78, 2) := by decide +kernel
theorem dX4_beginAnew_32 : decode cX4_beginAnew 32 = .ok (.ireturn, 1) := by decide +kernel
theorem dX4_beginAnew_33 : decode cX4_beginAnew 33 = .ok (.aload_n 0, 1) := by decide +kernel
theorem dX4_beginAnew_34 : decode cX4_beginAnew 34 = .ok (.getfield 12, 3) := by decide +kernel
theorem dX4_beginAnew_37 : decode cX4_beginAnew 37 = .ok (.invokevirtual 79, 3) := by decide +kernel
theorem dX4_beginAnew_40 : decode cX4_beginAnew 40 = .ok (.istore 4, 2) := by decide +kernel
theorem dX4_beginAnew_42 : decode cX4_beginAnew 42 = .ok (.aload_n 0, 1) := by decide +kernel
theorem dX4_beginAnew_43 : decode cX4_beginAnew 43 = .ok (.iload_n 1, 1) := by decide +kernel
theorem dX4_beginAnew_44 : decode cX4_beginAnew 44 = .ok (.iload_n 2, 1) := by decide +kernel
theorem dX4_beginAnew_45 : decode cX4_beginAnew 45 = .ok (.iload_n 3, 1) := by decide +kernel
theorem dX4_beginAnew_46 : decode cX4_beginAnew 46 = .ok (.invokevirtual 42, 3) := by decide +kernel
theorem dX4_beginAnew_49 : decode cX4_beginAnew 49 = .ok (.iload 4, 2) := by decide +kernel
theorem dX4_beginAnew_51 : decode cX4_beginAnew 51 = .ok (.ireturn, 1) := by decide +kernel
set_option maxRecDepth 20000 in
theorem ggX4_changeWeight_X4_hasParticle : GoodIn wsX4_changeWeight wsX4_hasParticle := goodIn_r _ [9, 10, 11, 12, 13, 14, 15, 16, 17, 18, 19, 37, 38, 39, 40, 41, 42, 43, 44, 45, 46, 47, 48, 49, 50, 51] (by decide +kernel) (by decide +kernel)
set_option maxRecDepth 20000 in
theorem gX4_changeWeight_X4_hasParticle : GoodIn wsX4_changeWeight (wsV RX4 83 RX4 yX4_hasParticle wsX4_hasParticle) := goodIn_app (goodIn_of _ (by decide +kernel)) ggX4_changeWeight_X4_hasParticle
set_option maxRecDepth 20000 in
theorem ggX4_changeWeight_X6_isWithin : GoodIn wsX4_changeWeight wsX6_isWithin := goodIn_r _ [19] (by decide +kernel) (by decide +kernel)
set_option maxRecDepth 20000 in
theorem gX4_changeWeight_X6_isWithin_n74 : GoodIn wsX4_changeWeight (wsX6_isWithin) := ggX4_changeWeight_X6_isWithin
set_option maxRecDepth 20000 in
theorem ggX4_changeWeight_X5_putWeight : GoodIn wsX4_changeWeight wsX5_putWeight := goodIn_r _ [24, 25, 52, 53] (by decide +kernel) (by decide +kernel)
set_option maxRecDepth 20000 in
theorem gX4_changeWeight_X5_putWeight : GoodIn wsX4_changeWeight (wsV RX4 88 RX5 yX5_putWeight wsX5_putWeight) := goodIn_app (goodIn_of _ (by decide +kernel)) ggX4_changeWeight_X5_putWeight
set_option maxRecDepth 20000 in
theorem ggX4_changeWeight_X5_reduce : GoodIn wsX4_changeWeight wsX5_reduce := goodIn_r _ [29, 30, 25, 31, 18, 32, 52, 53] (by decide +kernel) (by decide +kernel)
set_option maxRecDepth 20000 in
theorem gX4_changeWeight_X5_reduce : GoodIn wsX4_changeWeight (wsV RX4 91 RX5 yX5_reduce wsX5_reduce) := goodIn_app (goodIn_of _ (by decide +kernel)) ggX4_changeWeight_X5_reduce
set_option maxRecDepth 20000 in
theorem ggX4_changeWeight_X5_weightOf : GoodIn wsX4_changeWeight wsX5_weightOf := goodIn_r _ [36, 25, 52, 53] (by decide +kernel) (by decide +kernel)
set_option maxRecDepth 20000 in
theorem gX4_changeWeight_X5_weightOf : GoodIn wsX4_changeWeight (wsV RX4 96 RX5 yX5_weightOf wsX5_weightOf) := goodIn_app (goodIn_of _ (by decide +kernel)) ggX4_changeWeight_X5_weightOf
theorem dX4_changeWeight_0 : decode cX4_changeWeight 0 = .ok (.aload_n 0, 1) := by decide +kernel
theorem dX4_changeWeight_1 : decode cX4_changeWeight 1 = .ok (.iload_n 1, 1) := by decide +kernel
theorem dX4_changeWeight_2 : decode cX4_changeWeight 2 = .ok (.invokevirtual 83, 3) := by decide +kernel
theorem dX4_changeWeight_5 : decode cX4_changeWeight 5 = .ok (.ifCond .eq 13, 3) := by decide +kernel
theorem dX4_changeWeight_8 : decode cX4_changeWeight 8 = .ok (.iload_n 2, 1) := by decide +kernel
theorem dX4_changeWeight_9 : decode cX4_changeWeight 9 = .ok (.iconst 0, 1) := by decide +kernel
theorem dX4_changeWeight_10 : decode cX4_changeWeight 10 = .ok (.ldc 87, 2) := by decide +kernel
theorem dX4_changeWeight_12 : decode cX4_changeWeight 12 = .ok (.invokestatic 74, 3) := by decide +kernel
theorem dX4_changeWeight_15 : decode cX4_changeWeight 15 = .ok (.ifCond .ne 6, 3) := by decide +kernel
theorem dX4_changeWeight_18 : decode cX4_changeWeight 18 = .ok (.ldc 78, 2) := by decide +kernel
theorem dX4_changeWeight_20 : decode cX4_changeWeight 20 = .ok (.ireturn, 1) := by decide +kernel
theorem dX4_changeWeight_21 : decode cX4_changeWeight 21 = .ok (.aload_n 0, 1) := by decide +kernel
theorem dX4_changeWeight_22 : decode cX4_changeWeight 22 = .ok (.getfield 21, 3) := by decide +kernel
theorem dX4_changeWeight_25 : decode cX4_changeWeight 25 = .ok (.iload_n 1, 1) := by decide +kernel
theorem dX4_changeWeight_26 : decode cX4_changeWeight 26 = .ok (.iload_n 2, 1) := by decide +kernel
theorem dX4_changeWeight_27 : decode cX4_changeWeight 27 = .ok (.invokevirtual 88, 3) := by decide +kernel
theorem dX4_changeWeight_30 : decode cX4_changeWeight 30 = .ok (.aload_n 0, 1) := by decide +kernel
theorem dX4_changeWeight_31 : decode cX4_changeWeight 31 = .ok (.getfield 21, 3) := by decide +kernel
theorem dX4_changeWeight_34 : decode cX4_changeWeight 34 = .ok (.invokevirtual 91, 3) := by decide +kernel
theorem dX4_changeWeight_37 : decode cX4_changeWeight 37 = .ok (.ifCond .ne 6, 3) := by decide +kernel
theorem dX4_changeWeight_40 : decode cX4_changeWeight 40 = .ok (.ldc 95, 2) := by decide +kernel
theorem dX4_changeWeight_42 : decode cX4_changeWeight 42 = .ok (.ireturn, 1) := by decide +kernel
theorem dX4_changeWeight_43 : decode cX4_changeWeight 43 = .ok (.aload_n 0, 1) := by decide +kernel
theorem dX4_changeWeight_44 : decode cX4_changeWeight 44 = .ok (.getfield 21, 3) := by decide +kernel
theorem dX4_changeWeight_47 : decode cX4_changeWeight 47 = .ok (.iload_n 1, 1) := by decide +kernel
theorem dX4_changeWeight_48 : decode cX4_changeWeight 48 = .ok (.invokevirtual 96, 3) := by decide +kernel
theorem dX4_changeWeight_51 : decode cX4_changeWeight 51 = .ok (.ireturn, 1) := by decide +kernel
set_option maxRecDepth 20000 in
theorem ggX4_shift_X6_isWithin : GoodIn wsX4_shift wsX6_isWithin := goodIn_r _ [7] (by decide +kernel) (by decide +kernel)
set_option maxRecDepth 20000 in
theorem gX4_shift_X6_isWithin_n74 : GoodIn wsX4_shift (wsX6_isWithin) := ggX4_shift_X6_isWithin
set_option maxRecDepth 20000 in
theorem ggX4_shift_X1_generations : GoodIn wsX4_shift wsX1_generations := goodIn_r _ [12, 13, 70, 71, 72, 73, 74, 75, 76, 77] (by decide +kernel) (by decide +kernel)
set_option maxRecDepth 20000 in
theorem gX4_shift_X1_generations : GoodIn wsX4_shift (wsV RX4 79 RX1 yX1_generations wsX1_generations) := goodIn_app (goodIn_of _ (by decide +kernel)) ggX4_shift_X1_generations
set_option maxRecDepth 20000 in
theorem ggX4_shift_X1_latest : GoodIn wsX4_shift wsX1_latest := goodIn_r _ [17, 13, 70, 71, 72, 73, 74, 75, 76, 77] (by decide +kernel) (by decide +kernel)
set_option maxRecDepth 20000 in
theorem gX4_shift_X1_latest : GoodIn wsX4_shift (wsV RX4 101 RX1 yX1_latest wsX1_latest) := goodIn_app (goodIn_of _ (by decide +kernel)) ggX4_shift_X1_latest
set_option maxRecDepth 20000 in
theorem ggX4_shift_X1_addMoved : GoodIn wsX4_shift wsX1_addMoved := goodIn_r _ [21, 22, 13, 23, 24, 25, 26, 27, 28, 29, 30, 70, 71, 72, 73, 74, 75, 76, 77, 78] (by decide +kernel) (by decide +kernel)
set_option maxRecDepth 20000 in
theorem gX4_shift_X1_addMoved : GoodIn wsX4_shift (wsV RX4 104 RX1 yX1_addMoved wsX1_addMoved) := goodIn_app (goodIn_of _ (by decide +kernel)) ggX4_shift_X1_addMoved
set_option maxRecDepth 20000 in
theorem ggX4_shift_X1_many : GoodIn wsX4_shift wsX1_many := goodIn_r _ [34, 35, 70, 71, 72, 73, 74, 75, 76, 77] (by decide +kernel) (by decide +kernel)
set_option maxRecDepth 20000 in
theorem gX4_shift_X1_many : GoodIn wsX4_shift (wsV RX4 107 RX1 yX1_many wsX1_many) := goodIn_app (goodIn_of _ (by decide +kernel)) ggX4_shift_X1_many
set_option maxRecDepth 20000 in
theorem ggX4_shift_X6_noiseBehind : GoodIn wsX4_shift wsX6_noiseBehind := goodIn_r _ [37, 38] (by decide +kernel) (by decide +kernel)
set_option maxRecDepth 20000 in
theorem gX4_shift_X6_noiseBehind_n110 : GoodIn wsX4_shift (wsX6_noiseBehind) := ggX4_shift_X6_noiseBehind
set_option maxRecDepth 20000 in
theorem ggX4_shift_X1_placeIn : GoodIn wsX4_shift wsX1_placeIn := goodIn_r _ [42, 43, 44, 45, 46, 28, 47, 30, 70, 71, 72, 73, 74, 75, 76, 77, 78] (by decide +kernel) (by decide +kernel)
set_option maxRecDepth 20000 in
theorem gX4_shift_X1_placeIn : GoodIn wsX4_shift (wsV RX4 113 RX1 yX1_placeIn wsX1_placeIn) := goodIn_app (goodIn_of _ (by decide +kernel)) ggX4_shift_X1_placeIn
set_option maxRecDepth 20000 in
theorem ggX4_shift_X6_nearestPlace : GoodIn wsX4_shift wsX6_nearestPlace := goodIn_r _ [49, 50, 51, 52, 53, 54, 55, 56] (by decide +kernel) (by decide +kernel)
set_option maxRecDepth 20000 in
theorem gX4_shift_X6_nearestPlace_n117 : GoodIn wsX4_shift (wsX6_nearestPlace) := ggX4_shift_X6_nearestPlace
set_option maxRecDepth 20000 in
theorem ggX4_shift_X1_putParticle : GoodIn wsX4_shift wsX1_putParticle := goodIn_r _ [60, 61, 43, 62, 15, 16, 11, 17, 13, 25, 26, 27, 28, 29, 30, 70, 71, 72, 73, 74, 75, 76, 77, 78] (by decide +kernel) (by decide +kernel)
set_option maxRecDepth 20000 in
theorem gX4_shift_X1_putParticle : GoodIn wsX4_shift (wsV RX4 120 RX1 yX1_putParticle wsX1_putParticle) := goodIn_app (goodIn_of _ (by decide +kernel)) ggX4_shift_X1_putParticle
theorem dX4_shift_0 : decode cX4_shift 0 = .ok (.iload_n 1, 1) := by decide +kernel
theorem dX4_shift_1 : decode cX4_shift 1 = .ok (.bipush (-99), 2) := by decide +kernel
theorem dX4_shift_3 : decode cX4_shift 3 = .ok (.bipush 99, 2) := by decide +kernel
theorem dX4_shift_5 : decode cX4_shift 5 = .ok (.invokestatic 74, 3) := by decide +kernel
theorem dX4_shift_8 : decode cX4_shift 8 = .ok (.ifCond .eq 13, 3) := by decide +kernel
theorem dX4_shift_11 : decode cX4_shift 11 = .ok (.iload_n 2, 1) := by decide +kernel
theorem dX4_shift_12 : decode cX4_shift 12 = .ok (.iconst 0, 1) := by decide +kernel
theorem dX4_shift_13 : decode cX4_shift 13 = .ok (.bipush 99, 2) := by decide +kernel
theorem dX4_shift_15 : decode cX4_shift 15 = .ok (.invokestatic 74, 3) := by decide +kernel
theorem dX4_shift_18 : decode cX4_shift 18 = .ok (.ifCond .ne 6, 3) := by decide +kernel
theorem dX4_shift_21 : decode cX4_shift 21 = .ok (.ldc 78, 2) := by decide +kernel
theorem dX4_shift_23 : decode cX4_shift 23 = .ok (.ireturn, 1) := by decide +kernel
theorem dX4_shift_24 : decode cX4_shift 24 = .ok (.aload_n 0, 1) := by decide +kernel
theorem dX4_shift_25 : decode cX4_shift 25 = .ok (.getfield 12, 3) := by decide +kernel
theorem dX4_shift_28 : decode cX4_shift 28 = .ok (.invokevirtual 79, 3) := by decide +kernel
theorem dX4_shift_31 : decode cX4_shift 31 = .ok (.bipush 20, 2) := by decide +kernel
theorem dX4_shift_33 : decode cX4_shift 33 = .ok (.if_icmp .lt 6, 3) := by decide +kernel
theorem dX4_shift_36 : decode cX4_shift 36 = .ok (.ldc 100, 2) := by decide +kernel
theorem dX4_shift_38 : decode cX4_shift 38 = .ok (.ireturn, 1) := by decide +kernel
theorem dX4_shift_39 : decode cX4_shift 39 = .ok (.aload_n 0, 1) := by decide +kernel
theorem dX4_shift_40 : decode cX4_shift 40 = .ok (.getfield 12, 3) := by decide +kernel
theorem dX4_shift_43 : decode cX4_shift 43 = .ok (.invokevirtual 101, 3) := by decide +kernel
theorem dX4_shift_46 : decode cX4_shift 46 = .ok (.istore_n 3, 1) := by decide +kernel
theorem dX4_shift_47 : decode cX4_shift 47 = .ok (.aload_n 0, 1) := by decide +kernel
theorem dX4_shift_48 : decode cX4_shift 48 = .ok (.getfield 12, 3) := by decide +kernel
theorem dX4_shift_51 : decode cX4_shift 51 = .ok (.iload_n 1, 1) := by decide +kernel
theorem dX4_shift_52 : decode cX4_shift 52 = .ok (.iload_n 2, 1) := by decide +kernel
theorem dX4_shift_53 : decode cX4_shift 53 = .ok (.invokevirtual 104, 3) := by decide +kernel
theorem dX4_shift_56 : decode cX4_shift 56 = .ok (.iconst 0, 1) := by decide +kernel
theorem dX4_shift_57 : decode cX4_shift 57 = .ok (.istore 4, 2) := by decide +kernel
theorem dX4_shift_59 : decode cX4_shift 59 = .ok (.iload 4, 2) := by decide +kernel
theorem dX4_shift_61 : decode cX4_shift 61 = .ok (.aload_n 0, 1) := by decide +kernel
theorem dX4_shift_62 : decode cX4_shift 62 = .ok (.getfield 12, 3) := by decide +kernel
theorem dX4_shift_65 : decode cX4_shift 65 = .ok (.invokevirtual 107, 3) := by decide +kernel
theorem dX4_shift_68 : decode cX4_shift 68 = .ok (.if_icmp .ge 63, 3) := by decide +kernel
theorem dX4_shift_71 : decode cX4_shift 71 = .ok (.aload_n 0, 1) := by decide +kernel
theorem dX4_shift_72 : decode cX4_shift 72 = .ok (.aload_n 0, 1) := by decide +kernel
theorem dX4_shift_73 : decode cX4_shift 73 = .ok (.getfield 58, 3) := by decide +kernel
theorem dX4_shift_76 : decode cX4_shift 76 = .ok (.invokestatic 110, 3) := by decide +kernel
theorem dX4_shift_79 : decode cX4_shift 79 = .ok (.putfield 58, 3) := by decide +kernel
theorem dX4_shift_82 : decode cX4_shift 82 = .ok (.iload_n 1, 1) := by decide +kernel
theorem dX4_shift_83 : decode cX4_shift 83 = .ok (.aload_n 0, 1) := by decide +kernel
theorem dX4_shift_84 : decode cX4_shift 84 = .ok (.getfield 58, 3) := by decide +kernel
theorem dX4_shift_87 : decode cX4_shift 87 = .ok (.iconst 2, 1) := by decide +kernel
theorem dX4_shift_88 : decode cX4_shift 88 = .ok (.iload_n 2, 1) := by decide +kernel
theorem dX4_shift_89 : decode cX4_shift 89 = .ok (.imul, 1) := by decide +kernel
theorem dX4_shift_90 : decode cX4_shift 90 = .ok (.iconst 1, 1) := by decide +kernel
theorem dX4_shift_91 : decode cX4_shift 91 = .ok (.iadd, 1) := by decide +kernel
theorem dX4_shift_92 : decode cX4_shift 92 = .ok (.irem, 1) := by decide +kernel
theorem dX4_shift_93 : decode cX4_shift 93 = .ok (.iadd, 1) := by decide +kernel
theorem dX4_shift_94 : decode cX4_shift 94 = .ok (.iload_n 2, 1) := by decide +kernel
theorem dX4_shift_95 : decode cX4_shift 95 = .ok (.isub, 1) := by decide +kernel
theorem dX4_shift_96 : decode cX4_shift 96 = .ok (.istore 5, 2) := by decide +kernel
theorem dX4_shift_98 : decode cX4_shift 98 = .ok (.aload_n 0, 1) := by decide +kernel
theorem dX4_shift_99 : decode cX4_shift 99 = .ok (.getfield 12, 3) := by decide +kernel
theorem dX4_shift_102 : decode cX4_shift 102 = .ok (.iload 4, 2) := by decide +kernel
theorem dX4_shift_104 : decode cX4_shift 104 = .ok (.iload 4, 2) := by decide +kernel
theorem dX4_shift_106 : decode cX4_shift 106 = .ok (.aload_n 0, 1) := by decide +kernel
theorem dX4_shift_107 : decode cX4_shift 107 = .ok (.getfield 12, 3) := by decide +kernel
theorem dX4_shift_110 : decode cX4_shift 110 = .ok (.iload_n 3, 1) := by decide +kernel
theorem dX4_shift_111 : decode cX4_shift 111 = .ok (.iload 4, 2) := by decide +kernel
theorem dX4_shift_113 : decode cX4_shift 113 = .ok (.invokevirtual 113, 3) := by decide +kernel
theorem dX4_shift_116 : decode cX4_shift 116 = .ok (.iload 5, 2) := by decide +kernel
theorem dX4_shift_118 : decode cX4_shift 118 = .ok (.iadd, 1) := by decide +kernel
theorem dX4_shift_119 : decode cX4_shift 119 = .ok (.invokestatic 117, 3) := by decide +kernel
theorem dX4_shift_122 : decode cX4_shift 122 = .ok (.invokevirtual 120, 3) := by decide +kernel
theorem dX4_shift_125 : decode cX4_shift 125 = .ok (.iinc 4 1, 3) := by decide +kernel
theorem dX4_shift_128 : decode cX4_shift 128 = .ok (.goto (-69), 3) := by decide +kernel
theorem dX4_shift_131 : decode cX4_shift 131 = .ok (.aload_n 0, 1) := by decide +kernel
theorem dX4_shift_132 : decode cX4_shift 132 = .ok (.getfield 12, 3) := by decide +kernel
theorem dX4_shift_135 : decode cX4_shift 135 = .ok (.invokevirtual 101, 3) := by decide +kernel
theorem dX4_shift_138 : decode cX4_shift 138 = .ok (.ireturn, 1) := by decide +kernel
set_option maxRecDepth 20000 in
theorem ggX4_look_X6_isWithin : GoodIn wsX4_look wsX6_isWithin := goodIn_r _ [18] (by decide +kernel) (by decide +kernel)
set_option maxRecDepth 20000 in
theorem gX4_look_X6_isWithin_n74 : GoodIn wsX4_look (wsX6_isWithin) := ggX4_look_X6_isWithin
set_option maxRecDepth 20000 in
theorem ggX4_look_X1_many : GoodIn wsX4_look wsX1_many := goodIn_r _ [23, 24, 170, 171, 172, 173, 174, 175, 176, 177] (by decide +kernel) (by decide +kernel)
set_option maxRecDepth 20000 in
theorem gX4_look_X1_many : GoodIn wsX4_look (wsV RX4 107 RX1 yX1_many wsX1_many) := goodIn_app (goodIn_of _ (by decide +kernel)) ggX4_look_X1_many
set_option maxRecDepth 20000 in
theorem ggX4_look_X1_latest : GoodIn wsX4_look wsX1_latest := goodIn_r _ [28, 29, 170, 171, 172, 173, 174, 175, 176, 177] (by decide +kernel) (by decide +kernel)
set_option maxRecDepth 20000 in
theorem gX4_look_X1_latest : GoodIn wsX4_look (wsV RX4 101 RX1 yX1_latest wsX1_latest) := goodIn_app (goodIn_of _ (by decide +kernel)) ggX4_look_X1_latest
set_option maxRecDepth 20000 in
theorem ggX4_look_X1_placeIn : GoodIn wsX4_look wsX1_placeIn := goodIn_r _ [33, 34, 35, 36, 37, 38, 39, 40, 170, 171, 172, 173, 174, 175, 176, 177, 178] (by decide +kernel) (by decide +kernel)
set_option maxRecDepth 20000 in
theorem gX4_look_X1_placeIn : GoodIn wsX4_look (wsV RX4 113 RX1 yX1_placeIn wsX1_placeIn) := goodIn_app (goodIn_of _ (by decide +kernel)) ggX4_look_X1_placeIn
set_option maxRecDepth 20000 in
theorem ggX4_look_X5_weightOf : GoodIn wsX4_look wsX5_weightOf := goodIn_r _ [45, 46, 179, 180] (by decide +kernel) (by decide +kernel)
set_option maxRecDepth 20000 in
theorem gX4_look_X5_weightOf : GoodIn wsX4_look (wsV RX4 96 RX5 yX5_weightOf wsX5_weightOf) := goodIn_app (goodIn_of _ (by decide +kernel)) ggX4_look_X5_weightOf
set_option maxRecDepth 20000 in
theorem ggX4_look_X5_putWeight : GoodIn wsX4_look wsX5_putWeight := goodIn_r _ [50, 46, 179, 180] (by decide +kernel) (by decide +kernel)
set_option maxRecDepth 20000 in
theorem gX4_look_X5_putWeight : GoodIn wsX4_look (wsV RX4 88 RX5 yX5_putWeight wsX5_putWeight) := goodIn_app (goodIn_of _ (by decide +kernel)) ggX4_look_X5_putWeight
set_option maxRecDepth 20000 in
theorem ggX4_look_X5_reduce : GoodIn wsX4_look wsX5_reduce := goodIn_r _ [54, 55, 46, 56, 17, 57, 179, 180] (by decide +kernel) (by decide +kernel)
set_option maxRecDepth 20000 in
theorem gX4_look_X5_reduce : GoodIn wsX4_look (wsV RX4 91 RX5 yX5_reduce wsX5_reduce) := goodIn_app (goodIn_of _ (by decide +kernel)) ggX4_look_X5_reduce
set_option maxRecDepth 20000 in
theorem ggX4_look_X5_greatest : GoodIn wsX4_look wsX5_greatest := goodIn_r _ [61, 55, 46, 62, 9, 5, 10, 179, 180] (by decide +kernel) (by decide +kernel)
set_option maxRecDepth 20000 in
theorem gX4_look_X5_greatest : GoodIn wsX4_look (wsV RX4 131 RX5 yX5_greatest wsX5_greatest) := goodIn_app (goodIn_of _ (by decide +kernel)) ggX4_look_X5_greatest
set_option maxRecDepth 20000 in
theorem ggX4_look_X5_effectiveCount : GoodIn wsX4_look wsX5_effectiveCount := goodIn_r _ [66, 55, 46, 179, 180] (by decide +kernel) (by decide +kernel)
set_option maxRecDepth 20000 in
theorem gX4_look_X5_effectiveCount : GoodIn wsX4_look (wsV RX4 134 RX5 yX5_effectiveCount wsX5_effectiveCount) := goodIn_app (goodIn_of _ (by decide +kernel)) ggX4_look_X5_effectiveCount
set_option maxRecDepth 20000 in
theorem ggX4_look_X2_at : GoodIn wsX4_look wsX2_at := goodIn_r _ [39, 40, 178] (by decide +kernel) (by decide +kernel)
set_option maxRecDepth 20000 in
theorem gX4_look_X2_at : GoodIn wsX4_look (wsV RX4 137 RX2 yX2_at wsX2_at) := goodIn_app (goodIn_of _ (by decide +kernel)) ggX4_look_X2_at
set_option maxRecDepth 20000 in
theorem ggX4_look_X4_renew : GoodIn wsX4_look wsX4_renew := goodIn_r _ [72, 2, 13, 15, 73, 7, 74, 75, 76, 77, 78, 22, 79, 29, 67, 36, 37, 38, 39, 40, 80, 81, 82, 83, 84, 85, 86, 87, 88, 89, 90, 91, 92, 93, 94, 44, 95, 55, 46, 96, 97, 98, 99, 100, 101, 102, 103, 104, 17, 105, 106, 107, 108, 109, 110, 111, 112, 42, 43, 45, 113, 114, 115, 116, 25, 26, 27, 28, 117, 118, 119, 120, 121, 122, 123, 124, 125, 126, 19, 20, 21, 23, 24, 127, 128, 129, 130, 30, 31, 32, 33, 34, 35, 131, 132, 133, 134, 135, 136, 137, 138, 139, 140, 141, 142, 143, 144, 145, 146, 5, 147, 62, 9, 10, 148, 149, 150, 151, 152, 153, 154, 155, 156, 157, 158, 159, 160, 161, 162, 163, 164, 165, 166, 167, 168, 169, 170, 171, 172, 173, 174, 175, 176, 177, 178, 181, 182, 183, 179, 180] (by decide +kernel) (by decide +kernel)
set_option maxRecDepth 20000 in
theorem gX4_look_X4_renew : GoodIn wsX4_look (wsV RX4 140 RX4 yX4_renew wsX4_renew) := goodIn_app (goodIn_of _ (by decide +kernel)) ggX4_look_X4_renew
theorem dX4_look_0 : decode cX4_look 0 = .ok (.iload_n 1, 1) := by decide +kernel
theorem dX4_look_1 : decode cX4_look 1 = .ok (.iconst 0, 1) := by decide +kernel
theorem dX4_look_2 : decode cX4_look 2 = .ok (.bipush 99, 2) := by decide +kernel
theorem dX4_look_4 : decode cX4_look 4 = .ok (.invokestatic 74, 3) := by decide +kernel
theorem dX4_look_7 : decode cX4_look 7 = .ok (.ifCond .eq 13, 3) := by decide +kernel
theorem dX4_look_10 : decode cX4_look 10 = .ok (.iload_n 2, 1) := by decide +kernel
theorem dX4_look_11 : decode cX4_look 11 = .ok (.iconst 1, 1) := by decide +kernel
theorem dX4_look_12 : decode cX4_look 12 = .ok (.bipush 99, 2) := by decide +kernel
theorem dX4_look_14 : decode cX4_look 14 = .ok (.invokestatic 74, 3) := by decide +kernel
theorem dX4_look_17 : decode cX4_look 17 = .ok (.ifCond .ne 6, 3) := by decide +kernel
theorem dX4_look_20 : decode cX4_look 20 = .ok (.ldc 78, 2) := by decide +kernel
theorem dX4_look_22 : decode cX4_look 22 = .ok (.ireturn, 1) := by decide +kernel
theorem dX4_look_23 : decode cX4_look 23 = .ok (.iconst 0, 1) := by decide +kernel
theorem dX4_look_24 : decode cX4_look 24 = .ok (.istore_n 3, 1) := by decide +kernel
theorem dX4_look_25 : decode cX4_look 25 = .ok (.iload_n 3, 1) := by decide +kernel
theorem dX4_look_26 : decode cX4_look 26 = .ok (.aload_n 0, 1) := by decide +kernel
theorem dX4_look_27 : decode cX4_look 27 = .ok (.getfield 12, 3) := by decide +kernel
theorem dX4_look_30 : decode cX4_look 30 = .ok (.invokevirtual 107, 3) := by decide +kernel
theorem dX4_look_33 : decode cX4_look 33 = .ok (.if_icmp .ge 56, 3) := by decide +kernel
theorem dX4_look_36 : decode cX4_look 36 = .ok (.aload_n 0, 1) := by decide +kernel
theorem dX4_look_37 : decode cX4_look 37 = .ok (.getfield 12, 3) := by decide +kernel
theorem dX4_look_40 : decode cX4_look 40 = .ok (.aload_n 0, 1) := by decide +kernel
theorem dX4_look_41 : decode cX4_look 41 = .ok (.getfield 12, 3) := by decide +kernel
theorem dX4_look_44 : decode cX4_look 44 = .ok (.invokevirtual 101, 3) := by decide +kernel
theorem dX4_look_47 : decode cX4_look 47 = .ok (.iload_n 3, 1) := by decide +kernel
theorem dX4_look_48 : decode cX4_look 48 = .ok (.invokevirtual 113, 3) := by decide +kernel
theorem dX4_look_51 : decode cX4_look 51 = .ok (.iload_n 1, 1) := by decide +kernel
theorem dX4_look_52 : decode cX4_look 52 = .ok (.isub, 1) := by decide +kernel
theorem dX4_look_53 : decode cX4_look 53 = .ok (.invokestatic 123, 3) := by decide +kernel
theorem dX4_look_56 : decode cX4_look 56 = .ok (.istore 4, 2) := by decide +kernel
theorem dX4_look_58 : decode cX4_look 58 = .ok (.aload_n 0, 1) := by decide +kernel
theorem dX4_look_59 : decode cX4_look 59 = .ok (.getfield 21, 3) := by decide +kernel
theorem dX4_look_62 : decode cX4_look 62 = .ok (.iload_n 3, 1) := by decide +kernel
theorem dX4_look_63 : decode cX4_look 63 = .ok (.aload_n 0, 1) := by decide +kernel
theorem dX4_look_64 : decode cX4_look 64 = .ok (.getfield 21, 3) := by decide +kernel
theorem dX4_look_67 : decode cX4_look 67 = .ok (.iload_n 3, 1) := by decide +kernel
theorem dX4_look_68 : decode cX4_look 68 = .ok (.invokevirtual 96, 3) := by decide +kernel
theorem dX4_look_71 : decode cX4_look 71 = .ok (.iconst 0, 1) := by decide +kernel
theorem dX4_look_72 : decode cX4_look 72 = .ok (.iload_n 2, 1) := by decide +kernel
theorem dX4_look_73 : decode cX4_look 73 = .ok (.iload 4, 2) := by decide +kernel
theorem dX4_look_75 : decode cX4_look 75 = .ok (.isub, 1) := by decide +kernel
theorem dX4_look_76 : decode cX4_look 76 = .ok (.invokestatic 128, 3) := by decide +kernel
theorem dX4_look_79 : decode cX4_look 79 = .ok (.imul, 1) := by decide +kernel
theorem dX4_look_80 : decode cX4_look 80 = .ok (.invokevirtual 88, 3) := by decide +kernel
theorem dX4_look_83 : decode cX4_look 83 = .ok (.iinc 3 1, 3) := by decide +kernel
theorem dX4_look_86 : decode cX4_look 86 = .ok (.goto (-61), 3) := by decide +kernel
theorem dX4_look_89 : decode cX4_look 89 = .ok (.aload_n 0, 1) := by decide +kernel
theorem dX4_look_90 : decode cX4_look 90 = .ok (.getfield 21, 3) := by decide +kernel
theorem dX4_look_93 : decode cX4_look 93 = .ok (.invokevirtual 91, 3) := by decide +kernel
theorem dX4_look_96 : decode cX4_look 96 = .ok (.ifCond .ne 6, 3) := by decide +kernel
theorem dX4_look_99 : decode cX4_look 99 = .ok (.ldc 95, 2) := by decide +kernel
theorem dX4_look_101 : decode cX4_look 101 = .ok (.ireturn, 1) := by decide +kernel
theorem dX4_look_102 : decode cX4_look 102 = .ok (.aload_n 0, 1) := by decide +kernel
theorem dX4_look_103 : decode cX4_look 103 = .ok (.getfield 21, 3) := by decide +kernel
theorem dX4_look_106 : decode cX4_look 106 = .ok (.invokevirtual 131, 3) := by decide +kernel
theorem dX4_look_109 : decode cX4_look 109 = .ok (.ldc 87, 2) := by decide +kernel
theorem dX4_look_111 : decode cX4_look 111 = .ok (.if_icmp .le 6, 3) := by decide +kernel
theorem dX4_look_114 : decode cX4_look 114 = .ok (.ldc 100, 2) := by decide +kernel
theorem dX4_look_116 : decode cX4_look 116 = .ok (.ireturn, 1) := by decide +kernel
theorem dX4_look_117 : decode cX4_look 117 = .ok (.aload_n 0, 1) := by decide +kernel
theorem dX4_look_118 : decode cX4_look 118 = .ok (.dup, 1) := by decide +kernel
theorem dX4_look_119 : decode cX4_look 119 = .ok (.getfield 62, 3) := by decide +kernel
theorem dX4_look_122 : decode cX4_look 122 = .ok (.iconst 1, 1) := by decide +kernel
theorem dX4_look_123 : decode cX4_look 123 = .ok (.iadd, 1) := by decide +kernel
theorem dX4_look_124 : decode cX4_look 124 = .ok (.putfield 62, 3) := by decide +kernel
theorem dX4_look_127 : decode cX4_look 127 = .ok (.aload_n 0, 1) := by decide +kernel
theorem dX4_look_128 : decode cX4_look 128 = .ok (.getfield 21, 3) := by decide +kernel
theorem dX4_look_131 : decode cX4_look 131 = .ok (.invokevirtual 134, 3) := by decide +kernel
theorem dX4_look_134 : decode cX4_look 134 = .ok (.istore_n 3, 1) := by decide +kernel
theorem dX4_look_135 : decode cX4_look 135 = .ok (.iload_n 3, 1) := by decide +kernel
theorem dX4_look_136 : decode cX4_look 136 = .ok (.aload_n 0, 1) := by decide +kernel
theorem dX4_look_137 : decode cX4_look 137 = .ok (.getfield 30, 3) := by decide +kernel
theorem dX4_look_140 : decode cX4_look 140 = .ok (.iconst 0, 1) := by decide +kernel
theorem dX4_look_141 : decode cX4_look 141 = .ok (.invokevirtual 137, 3) := by decide +kernel
theorem dX4_look_144 : decode cX4_look 144 = .ok (.if_icmp .ge 15, 3) := by decide +kernel
theorem dX4_look_147 : decode cX4_look 147 = .ok (.aload_n 0, 1) := by decide +kernel
theorem dX4_look_148 : decode cX4_look 148 = .ok (.invokevirtual 140, 3) := by decide +kernel
theorem dX4_look_151 : decode cX4_look 151 = .ok (.ldc 100, 2) := by decide +kernel
theorem dX4_look_153 : decode cX4_look 153 = .ok (.if_icmp .ne 6, 3) := by decide +kernel
theorem dX4_look_156 : decode cX4_look 156 = .ok (.ldc 100, 2) := by decide +kernel
theorem dX4_look_158 : decode cX4_look 158 = .ok (.ireturn, 1) := by decide +kernel
theorem dX4_look_159 : decode cX4_look 159 = .ok (.iload_n 3, 1) := by decide +kernel
theorem dX4_look_160 : decode cX4_look 160 = .ok (.ireturn, 1) := by decide +kernel
set_option maxRecDepth 20000 in
theorem ggX4_renew_X1_generations : GoodIn wsX4_renew wsX1_generations := goodIn_r _ [12, 13, 136, 137, 138, 139, 140, 141, 142, 143] (by decide +kernel) (by decide +kernel)
set_option maxRecDepth 20000 in
theorem gX4_renew_X1_generations : GoodIn wsX4_renew (wsV RX4 79 RX1 yX1_generations wsX1_generations) := goodIn_app (goodIn_of _ (by decide +kernel)) ggX4_renew_X1_generations
set_option maxRecDepth 20000 in
theorem ggX4_renew_X2_at : GoodIn wsX4_renew wsX2_at := goodIn_r _ [18, 19, 144] (by decide +kernel) (by decide +kernel)
set_option maxRecDepth 20000 in
theorem gX4_renew_X2_at : GoodIn wsX4_renew (wsV RX4 137 RX2 yX2_at wsX2_at) := goodIn_app (goodIn_of _ (by decide +kernel)) ggX4_renew_X2_at
set_option maxRecDepth 20000 in
theorem ggX4_renew_X0_choose : GoodIn wsX4_renew wsX0_choose := goodIn_r _ [24, 25, 26, 27, 28, 23, 29, 30, 31, 32, 33, 34, 35, 36, 37, 38, 39, 40, 41, 42, 43, 44, 45, 46, 47, 48, 49, 50, 51, 52, 53, 54, 55, 56, 57, 58, 59, 60, 61, 62, 63, 145, 146, 147, 148, 149] (by decide +kernel) (by decide +kernel)
set_option maxRecDepth 20000 in
theorem gX4_renew_X0_choose : GoodIn wsX4_renew (wsV RX4 143 RX0 yX0_choose wsX0_choose) := goodIn_app (goodIn_of _ (by decide +kernel)) ggX4_renew_X0_choose
set_option maxRecDepth 20000 in
theorem ggX4_renew_X1_latest : GoodIn wsX4_renew wsX1_latest := goodIn_r _ [67, 13, 136, 137, 138, 139, 140, 141, 142, 143] (by decide +kernel) (by decide +kernel)
set_option maxRecDepth 20000 in
theorem gX4_renew_X1_latest : GoodIn wsX4_renew (wsV RX4 101 RX1 yX1_latest wsX1_latest) := goodIn_app (goodIn_of _ (by decide +kernel)) ggX4_renew_X1_latest
set_option maxRecDepth 20000 in
theorem ggX4_renew_X1_addResampled : GoodIn wsX4_renew wsX1_addResampled := goodIn_r _ [71, 72, 13, 73, 74, 75, 76, 17, 77, 19, 136, 137, 138, 139, 140, 141, 142, 143, 144] (by decide +kernel) (by decide +kernel)
set_option maxRecDepth 20000 in
theorem gX4_renew_X1_addResampled : GoodIn wsX4_renew (wsV RX4 149 RX1 yX1_addResampled wsX1_addResampled) := goodIn_app (goodIn_of _ (by decide +kernel)) ggX4_renew_X1_addResampled
set_option maxRecDepth 20000 in
theorem ggX4_renew_X1_many : GoodIn wsX4_renew wsX1_many := goodIn_r _ [81, 82, 136, 137, 138, 139, 140, 141, 142, 143] (by decide +kernel) (by decide +kernel)
set_option maxRecDepth 20000 in
theorem gX4_renew_X1_many : GoodIn wsX4_renew (wsV RX4 107 RX1 yX1_many wsX1_many) := goodIn_app (goodIn_of _ (by decide +kernel)) ggX4_renew_X1_many
set_option maxRecDepth 20000 in
theorem ggX4_renew_X0_chosenFor : GoodIn wsX4_renew wsX0_chosenFor := goodIn_r _ [86, 31, 145, 146, 147] (by decide +kernel) (by decide +kernel)
set_option maxRecDepth 20000 in
theorem gX4_renew_X0_chosenFor : GoodIn wsX4_renew (wsV RX4 152 RX0 yX0_chosenFor wsX0_chosenFor) := goodIn_app (goodIn_of _ (by decide +kernel)) ggX4_renew_X0_chosenFor
set_option maxRecDepth 20000 in
theorem ggX4_renew_X1_placeIn : GoodIn wsX4_renew wsX1_placeIn := goodIn_r _ [90, 91, 92, 15, 16, 17, 18, 19, 136, 137, 138, 139, 140, 141, 142, 143, 144] (by decide +kernel) (by decide +kernel)
set_option maxRecDepth 20000 in
theorem gX4_renew_X1_placeIn : GoodIn wsX4_renew (wsV RX4 113 RX1 yX1_placeIn wsX1_placeIn) := goodIn_app (goodIn_of _ (by decide +kernel)) ggX4_renew_X1_placeIn
set_option maxRecDepth 20000 in
theorem ggX4_renew_X1_putParticle : GoodIn wsX4_renew wsX1_putParticle := goodIn_r _ [96, 97, 91, 98, 65, 66, 11, 67, 13, 74, 75, 76, 17, 77, 19, 136, 137, 138, 139, 140, 141, 142, 143, 144] (by decide +kernel) (by decide +kernel)
set_option maxRecDepth 20000 in
theorem gX4_renew_X1_putParticle : GoodIn wsX4_renew (wsV RX4 120 RX1 yX1_putParticle wsX1_putParticle) := goodIn_app (goodIn_of _ (by decide +kernel)) ggX4_renew_X1_putParticle
set_option maxRecDepth 20000 in
theorem ggX4_renew_X0_noise : GoodIn wsX4_renew wsX0_noise := goodIn_r _ [102, 25, 145, 146, 147] (by decide +kernel) (by decide +kernel)
set_option maxRecDepth 20000 in
theorem gX4_renew_X0_noise : GoodIn wsX4_renew (wsV RX4 155 RX0 yX0_noise wsX0_noise) := goodIn_app (goodIn_of _ (by decide +kernel)) ggX4_renew_X0_noise
set_option maxRecDepth 20000 in
theorem ggX4_renew_X5_makeEqual : GoodIn wsX4_renew wsX5_makeEqual := goodIn_r _ [106, 38, 107, 108, 109, 110, 111, 112, 113, 37, 148, 149] (by decide +kernel) (by decide +kernel)
set_option maxRecDepth 20000 in
theorem gX4_renew_X5_makeEqual : GoodIn wsX4_renew (wsV RX4 71 RX5 yX5_makeEqual wsX5_makeEqual) := goodIn_app (goodIn_of _ (by decide +kernel)) ggX4_renew_X5_makeEqual
set_option maxRecDepth 20000 in
theorem ggX4_renew_X1_howManyAreAncestors : GoodIn wsX4_renew wsX1_howManyAreAncestors := goodIn_r _ [117, 82, 118, 119, 120, 11, 121, 97, 98, 65, 66, 67, 13, 92, 15, 16, 17, 18, 19, 122, 123, 124, 125, 126, 127, 128, 136, 137, 138, 139, 140, 141, 142, 143, 144] (by decide +kernel) (by decide +kernel)
set_option maxRecDepth 20000 in
theorem gX4_renew_X1_howManyAreAncestors : GoodIn wsX4_renew (wsV RX4 157 RX1 yX1_howManyAreAncestors wsX1_howManyAreAncestors) := goodIn_app (goodIn_of _ (by decide +kernel)) ggX4_renew_X1_howManyAreAncestors
theorem dX4_renew_0 : decode cX4_renew 0 = .ok (.aload_n 0, 1) := by decide +kernel
theorem dX4_renew_1 : decode cX4_renew 1 = .ok (.getfield 12, 3) := by decide +kernel
theorem dX4_renew_4 : decode cX4_renew 4 = .ok (.invokevirtual 79, 3) := by decide +kernel
theorem dX4_renew_7 : decode cX4_renew 7 = .ok (.bipush 20, 2) := by decide +kernel
theorem dX4_renew_9 : decode cX4_renew 9 = .ok (.if_icmp .lt 6, 3) := by decide +kernel
theorem dX4_renew_12 : decode cX4_renew 12 = .ok (.ldc 100, 2) := by decide +kernel
theorem dX4_renew_14 : decode cX4_renew 14 = .ok (.ireturn, 1) := by decide +kernel
theorem dX4_renew_15 : decode cX4_renew 15 = .ok (.aload_n 0, 1) := by decide +kernel
theorem dX4_renew_16 : decode cX4_renew 16 = .ok (.getfield 30, 3) := by decide +kernel
theorem dX4_renew_19 : decode cX4_renew 19 = .ok (.iconst 1, 1) := by decide +kernel
theorem dX4_renew_20 : decode cX4_renew 20 = .ok (.invokevirtual 137, 3) := by decide +kernel
theorem dX4_renew_23 : decode cX4_renew 23 = .ok (.istore_n 1, 1) := by decide +kernel
theorem dX4_renew_24 : decode cX4_renew 24 = .ok (.aload_n 0, 1) := by decide +kernel
theorem dX4_renew_25 : decode cX4_renew 25 = .ok (.getfield 34, 3) := by decide +kernel
theorem dX4_renew_28 : decode cX4_renew 28 = .ok (.iload_n 1, 1) := by decide +kernel
theorem dX4_renew_29 : decode cX4_renew 29 = .ok (.aload_n 0, 1) := by decide +kernel
theorem dX4_renew_30 : decode cX4_renew 30 = .ok (.getfield 21, 3) := by decide +kernel
theorem dX4_renew_33 : decode cX4_renew 33 = .ok (.aload_n 0, 1) := by decide +kernel
theorem dX4_renew_34 : decode cX4_renew 34 = .ok (.getfield 30, 3) := by decide +kernel
theorem dX4_renew_37 : decode cX4_renew 37 = .ok (.iconst 2, 1) := by decide +kernel
theorem dX4_renew_38 : decode cX4_renew 38 = .ok (.invokevirtual 137, 3) := by decide +kernel
theorem dX4_renew_41 : decode cX4_renew 41 = .ok (.aload_n 0, 1) := by decide +kernel
theorem dX4_renew_42 : decode cX4_renew 42 = .ok (.getfield 58, 3) := by decide +kernel
theorem dX4_renew_45 : decode cX4_renew 45 = .ok (.invokevirtual 143, 3) := by decide +kernel
theorem dX4_renew_48 : decode cX4_renew 48 = .ok (.aload_n 0, 1) := by decide +kernel
theorem dX4_renew_49 : decode cX4_renew 49 = .ok (.getfield 12, 3) := by decide +kernel
theorem dX4_renew_52 : decode cX4_renew 52 = .ok (.invokevirtual 101, 3) := by decide +kernel
theorem dX4_renew_55 : decode cX4_renew 55 = .ok (.istore_n 2, 1) := by decide +kernel
theorem dX4_renew_56 : decode cX4_renew 56 = .ok (.aload_n 0, 1) := by decide +kernel
theorem dX4_renew_57 : decode cX4_renew 57 = .ok (.getfield 12, 3) := by decide +kernel
theorem dX4_renew_60 : decode cX4_renew 60 = .ok (.iload_n 1, 1) := by decide +kernel
theorem dX4_renew_61 : decode cX4_renew 61 = .ok (.invokevirtual 149, 3) := by decide +kernel
theorem dX4_renew_64 : decode cX4_renew 64 = .ok (.iconst 0, 1) := by decide +kernel
theorem dX4_renew_65 : decode cX4_renew 65 = .ok (.istore_n 3, 1) := by decide +kernel
theorem dX4_renew_66 : decode cX4_renew 66 = .ok (.iload_n 3, 1) := by decide +kernel
theorem dX4_renew_67 : decode cX4_renew 67 = .ok (.aload_n 0, 1) := by decide +kernel
theorem dX4_renew_68 : decode cX4_renew 68 = .ok (.getfield 12, 3) := by decide +kernel
theorem dX4_renew_71 : decode cX4_renew 71 = .ok (.invokevirtual 107, 3) := by decide +kernel
theorem dX4_renew_74 : decode cX4_renew 74 = .ok (.if_icmp .ge 39, 3) := by decide +kernel
theorem dX4_renew_77 : decode cX4_renew 77 = .ok (.aload_n 0, 1) := by decide +kernel
theorem dX4_renew_78 : decode cX4_renew 78 = .ok (.getfield 34, 3) := by decide +kernel
theorem dX4_renew_81 : decode cX4_renew 81 = .ok (.iload_n 3, 1) := by decide +kernel
theorem dX4_renew_82 : decode cX4_renew 82 = .ok (.invokevirtual 152, 3) := by decide +kernel
theorem dX4_renew_85 : decode cX4_renew 85 = .ok (.istore 4, 2) := by decide +kernel
theorem dX4_renew_87 : decode cX4_renew 87 = .ok (.aload_n 0, 1) := by decide +kernel
theorem dX4_renew_88 : decode cX4_renew 88 = .ok (.getfield 12, 3) := by decide +kernel
theorem dX4_renew_91 : decode cX4_renew 91 = .ok (.iload_n 3, 1) := by decide +kernel
theorem dX4_renew_92 : decode cX4_renew 92 = .ok (.iload 4, 2) := by decide +kernel
theorem dX4_renew_94 : decode cX4_renew 94 = .ok (.aload_n 0, 1) := by decide +kernel
theorem dX4_renew_95 : decode cX4_renew 95 = .ok (.getfield 12, 3) := by decide +kernel
theorem dX4_renew_98 : decode cX4_renew 98 = .ok (.iload_n 2, 1) := by decide +kernel
theorem dX4_renew_99 : decode cX4_renew 99 = .ok (.iload 4, 2) := by decide +kernel
theorem dX4_renew_101 : decode cX4_renew 101 = .ok (.invokevirtual 113, 3) := by decide +kernel
theorem dX4_renew_104 : decode cX4_renew 104 = .ok (.invokevirtual 120, 3) := by decide +kernel
theorem dX4_renew_107 : decode cX4_renew 107 = .ok (.iinc 3 1, 3) := by decide +kernel
theorem dX4_renew_110 : decode cX4_renew 110 = .ok (.goto (-44), 3) := by decide +kernel
theorem dX4_renew_113 : decode cX4_renew 113 = .ok (.aload_n 0, 1) := by decide +kernel
theorem dX4_renew_114 : decode cX4_renew 114 = .ok (.aload_n 0, 1) := by decide +kernel
theorem dX4_renew_115 : decode cX4_renew 115 = .ok (.getfield 34, 3) := by decide +kernel
theorem dX4_renew_118 : decode cX4_renew 118 = .ok (.invokevirtual 155, 3) := by decide +kernel
theorem dX4_renew_121 : decode cX4_renew 121 = .ok (.putfield 58, 3) := by decide +kernel
theorem dX4_renew_124 : decode cX4_renew 124 = .ok (.aload_n 0, 1) := by decide +kernel
theorem dX4_renew_125 : decode cX4_renew 125 = .ok (.getfield 21, 3) := by decide +kernel
theorem dX4_renew_128 : decode cX4_renew 128 = .ok (.aload_n 0, 1) := by decide +kernel
theorem dX4_renew_129 : decode cX4_renew 129 = .ok (.getfield 12, 3) := by decide +kernel
theorem dX4_renew_132 : decode cX4_renew 132 = .ok (.invokevirtual 107, 3) := by decide +kernel
theorem dX4_renew_135 : decode cX4_renew 135 = .ok (.invokevirtual 71, 3) := by decide +kernel
theorem dX4_renew_138 : decode cX4_renew 138 = .ok (.aload_n 0, 1) := by decide +kernel
theorem dX4_renew_139 : decode cX4_renew 139 = .ok (.dup, 1) := by decide +kernel
theorem dX4_renew_140 : decode cX4_renew 140 = .ok (.getfield 65, 3) := by decide +kernel
theorem dX4_renew_143 : decode cX4_renew 143 = .ok (.iconst 1, 1) := by decide +kernel
theorem dX4_renew_144 : decode cX4_renew 144 = .ok (.iadd, 1) := by decide +kernel
theorem dX4_renew_145 : decode cX4_renew 145 = .ok (.putfield 65, 3) := by decide +kernel
theorem dX4_renew_148 : decode cX4_renew 148 = .ok (.aload_n 0, 1) := by decide +kernel
theorem dX4_renew_149 : decode cX4_renew 149 = .ok (.getfield 12, 3) := by decide +kernel
theorem dX4_renew_152 : decode cX4_renew 152 = .ok (.iload_n 2, 1) := by decide +kernel
theorem dX4_renew_153 : decode cX4_renew 153 = .ok (.invokevirtual 157, 3) := by decide +kernel
theorem dX4_renew_156 : decode cX4_renew 156 = .ok (.ireturn, 1) := by decide +kernel
set_option maxRecDepth 20000 in
theorem ggX4_putSetting_X6_isWithin : GoodIn wsX4_putSetting wsX6_isWithin := goodIn_r _ [5] (by decide +kernel) (by decide +kernel)
set_option maxRecDepth 20000 in
theorem gX4_putSetting_X6_isWithin_n74 : GoodIn wsX4_putSetting (wsX6_isWithin) := ggX4_putSetting_X6_isWithin
set_option maxRecDepth 20000 in
theorem ggX4_putSetting_X4_greatestSetting : GoodIn wsX4_putSetting wsX4_greatestSetting := goodIn_r _ [9] (by decide +kernel) (by decide +kernel)
set_option maxRecDepth 20000 in
theorem gX4_putSetting_X4_greatestSetting : GoodIn wsX4_putSetting (va_wsS RX4 160 yX4_greatestSetting wsX4_greatestSetting) := goodIn_app (goodIn_of _ (by decide +kernel)) ggX4_putSetting_X4_greatestSetting
set_option maxRecDepth 20000 in
theorem ggX4_putSetting_X2_at : GoodIn wsX4_putSetting wsX2_at := goodIn_r _ [14, 15, 27] (by decide +kernel) (by decide +kernel)
set_option maxRecDepth 20000 in
theorem gX4_putSetting_X2_at : GoodIn wsX4_putSetting (wsV RX4 137 RX2 yX2_at wsX2_at) := goodIn_app (goodIn_of _ (by decide +kernel)) ggX4_putSetting_X2_at
set_option maxRecDepth 20000 in
theorem ggX4_putSetting_X2_put : GoodIn wsX4_putSetting wsX2_put := goodIn_r _ [19, 15, 27] (by decide +kernel) (by decide +kernel)
set_option maxRecDepth 20000 in
theorem gX4_putSetting_X2_put : GoodIn wsX4_putSetting (wsV RX4 38 RX2 yX2_put wsX2_put) := goodIn_app (goodIn_of _ (by decide +kernel)) ggX4_putSetting_X2_put
theorem dX4_putSetting_0 : decode cX4_putSetting 0 = .ok (.iload_n 1, 1) := by decide +kernel
theorem dX4_putSetting_1 : decode cX4_putSetting 1 = .ok (.iconst 0, 1) := by decide +kernel
theorem dX4_putSetting_2 : decode cX4_putSetting 2 = .ok (.iconst 2, 1) := by decide +kernel
theorem dX4_putSetting_3 : decode cX4_putSetting 3 = .ok (.invokestatic 74, 3) := by decide +kernel
theorem dX4_putSetting_6 : decode cX4_putSetting 6 = .ok (.ifCond .eq 15, 3) := by decide +kernel
theorem dX4_putSetting_9 : decode cX4_putSetting 9 = .ok (.iload_n 2, 1) := by decide +kernel
theorem dX4_putSetting_10 : decode cX4_putSetting 10 = .ok (.iconst 0, 1) := by decide +kernel
theorem dX4_putSetting_11 : decode cX4_putSetting 11 = .ok (.iload_n 1, 1) := by decide +kernel
theorem dX4_putSetting_12 : decode cX4_putSetting 12 = .ok (.invokestatic 160, 3) := by decide +kernel
theorem dX4_putSetting_15 : decode cX4_putSetting 15 = .ok (.invokestatic 74, 3) := by decide +kernel
theorem dX4_putSetting_18 : decode cX4_putSetting 18 = .ok (.ifCond .ne 6, 3) := by decide +kernel
theorem dX4_putSetting_21 : decode cX4_putSetting 21 = .ok (.ldc 78, 2) := by decide +kernel
theorem dX4_putSetting_23 : decode cX4_putSetting 23 = .ok (.ireturn, 1) := by decide +kernel
theorem dX4_putSetting_24 : decode cX4_putSetting 24 = .ok (.aload_n 0, 1) := by decide +kernel
theorem dX4_putSetting_25 : decode cX4_putSetting 25 = .ok (.getfield 30, 3) := by decide +kernel
theorem dX4_putSetting_28 : decode cX4_putSetting 28 = .ok (.iload_n 1, 1) := by decide +kernel
theorem dX4_putSetting_29 : decode cX4_putSetting 29 = .ok (.invokevirtual 137, 3) := by decide +kernel
theorem dX4_putSetting_32 : decode cX4_putSetting 32 = .ok (.istore_n 3, 1) := by decide +kernel
theorem dX4_putSetting_33 : decode cX4_putSetting 33 = .ok (.aload_n 0, 1) := by decide +kernel
theorem dX4_putSetting_34 : decode cX4_putSetting 34 = .ok (.getfield 30, 3) := by decide +kernel
theorem dX4_putSetting_37 : decode cX4_putSetting 37 = .ok (.iload_n 1, 1) := by decide +kernel
theorem dX4_putSetting_38 : decode cX4_putSetting 38 = .ok (.iload_n 2, 1) := by decide +kernel
theorem dX4_putSetting_39 : decode cX4_putSetting 39 = .ok (.invokevirtual 38, 3) := by decide +kernel
theorem dX4_putSetting_42 : decode cX4_putSetting 42 = .ok (.iload_n 3, 1) := by decide +kernel
theorem dX4_putSetting_43 : decode cX4_putSetting 43 = .ok (.ireturn, 1) := by decide +kernel
theorem dX4_greatestSetting_0 : decode cX4_greatestSetting 0 = .ok (.iload_n 0, 1) := by decide +kernel
theorem dX4_greatestSetting_1 : decode cX4_greatestSetting 1 = .ok (.lookupswitch 32 #[(0, 27), (1, 30)], 27) := by decide +kernel
theorem dX4_greatestSetting_28 : decode cX4_greatestSetting 28 = .ok (.bipush 12, 2) := by decide +kernel
theorem dX4_greatestSetting_30 : decode cX4_greatestSetting 30 = .ok (.ireturn, 1) := by decide +kernel
theorem dX4_greatestSetting_31 : decode cX4_greatestSetting 31 = .ok (.iconst 2, 1) := by decide +kernel
theorem dX4_greatestSetting_32 : decode cX4_greatestSetting 32 = .ok (.ireturn, 1) := by decide +kernel
theorem dX4_greatestSetting_33 : decode cX4_greatestSetting 33 = .ok (.bipush 99, 2) := by decide +kernel
theorem dX4_greatestSetting_35 : decode cX4_greatestSetting 35 = .ok (.ireturn, 1) := by decide +kernel
set_option maxRecDepth 20000 in
theorem ggX4_hasParticle_X1_many : GoodIn wsX4_hasParticle wsX1_many := goodIn_r _ [6, 7, 18, 19, 20, 21, 22, 23, 24, 25] (by decide +kernel) (by decide +kernel)
set_option maxRecDepth 20000 in
theorem gX4_hasParticle_X1_many : GoodIn wsX4_hasParticle (wsV RX4 107 RX1 yX1_many wsX1_many) := goodIn_app (goodIn_of _ (by decide +kernel)) ggX4_hasParticle_X1_many
set_option maxRecDepth 20000 in
theorem ggX4_hasParticle_X6_isWithin : GoodIn wsX4_hasParticle wsX6_isWithin := goodIn_r _ [10] (by decide +kernel) (by decide +kernel)
set_option maxRecDepth 20000 in
theorem gX4_hasParticle_X6_isWithin_n74 : GoodIn wsX4_hasParticle (wsX6_isWithin) := ggX4_hasParticle_X6_isWithin
theorem dX4_hasParticle_0 : decode cX4_hasParticle 0 = .ok (.iload_n 1, 1) := by decide +kernel
theorem dX4_hasParticle_1 : decode cX4_hasParticle 1 = .ok (.iconst 0, 1) := by decide +kernel
theorem dX4_hasParticle_2 : decode cX4_hasParticle 2 = .ok (.aload_n 0, 1) := by decide +kernel
theorem dX4_hasParticle_3 : decode cX4_hasParticle 3 = .ok (.getfield 12, 3) := by decide +kernel
theorem dX4_hasParticle_6 : decode cX4_hasParticle 6 = .ok (.invokevirtual 107, 3) := by decide +kernel
theorem dX4_hasParticle_9 : decode cX4_hasParticle 9 = .ok (.iconst 1, 1) := by decide +kernel
theorem dX4_hasParticle_10 : decode cX4_hasParticle 10 = .ok (.isub, 1) := by decide +kernel
theorem dX4_hasParticle_11 : decode cX4_hasParticle 11 = .ok (.invokestatic 74, 3) := by decide +kernel
theorem dX4_hasParticle_14 : decode cX4_hasParticle 14 = .ok (.ireturn, 1) := by decide +kernel
set_option maxRecDepth 20000 in
theorem ggX4_hasGeneration_X1_latest : GoodIn wsX4_hasGeneration wsX1_latest := goodIn_r _ [6, 7, 18, 19, 20, 21, 22, 23, 24, 25] (by decide +kernel) (by decide +kernel)
set_option maxRecDepth 20000 in
theorem gX4_hasGeneration_X1_latest : GoodIn wsX4_hasGeneration (wsV RX4 101 RX1 yX1_latest wsX1_latest) := goodIn_app (goodIn_of _ (by decide +kernel)) ggX4_hasGeneration_X1_latest
set_option maxRecDepth 20000 in
theorem ggX4_hasGeneration_X6_isWithin : GoodIn wsX4_hasGeneration wsX6_isWithin := goodIn_r _ [10] (by decide +kernel) (by decide +kernel)
set_option maxRecDepth 20000 in
theorem gX4_hasGeneration_X6_isWithin_n74 : GoodIn wsX4_hasGeneration (wsX6_isWithin) := ggX4_hasGeneration_X6_isWithin
theorem dX4_hasGeneration_0 : decode cX4_hasGeneration 0 = .ok (.iload_n 1, 1) := by decide +kernel
theorem dX4_hasGeneration_1 : decode cX4_hasGeneration 1 = .ok (.iconst 0, 1) := by decide +kernel
theorem dX4_hasGeneration_2 : decode cX4_hasGeneration 2 = .ok (.aload_n 0, 1) := by decide +kernel
theorem dX4_hasGeneration_3 : decode cX4_hasGeneration 3 = .ok (.getfield 12, 3) := by decide +kernel
theorem dX4_hasGeneration_6 : decode cX4_hasGeneration 6 = .ok (.invokevirtual 101, 3) := by decide +kernel
theorem dX4_hasGeneration_9 : decode cX4_hasGeneration 9 = .ok (.invokestatic 74, 3) := by decide +kernel
theorem dX4_hasGeneration_12 : decode cX4_hasGeneration 12 = .ok (.ireturn, 1) := by decide +kernel
set_option maxRecDepth 20000 in
theorem ggX4_tellOfParticle_X1_latest : GoodIn wsX4_tellOfParticle wsX1_latest := goodIn_r _ [8, 9, 61, 62, 63, 64, 65, 66, 67, 68] (by decide +kernel) (by decide +kernel)
set_option maxRecDepth 20000 in
theorem gX4_tellOfParticle_X1_latest : GoodIn wsX4_tellOfParticle (wsV RX4 101 RX1 yX1_latest wsX1_latest) := goodIn_app (goodIn_of _ (by decide +kernel)) ggX4_tellOfParticle_X1_latest
set_option maxRecDepth 20000 in
theorem ggX4_tellOfParticle_X1_placeIn : GoodIn wsX4_tellOfParticle wsX1_placeIn := goodIn_r _ [13, 14, 15, 16, 17, 18, 19, 20, 61, 62, 63, 64, 65, 66, 67, 68, 69] (by decide +kernel) (by decide +kernel)
set_option maxRecDepth 20000 in
theorem gX4_tellOfParticle_X1_placeIn : GoodIn wsX4_tellOfParticle (wsV RX4 113 RX1 yX1_placeIn wsX1_placeIn) := goodIn_app (goodIn_of _ (by decide +kernel)) ggX4_tellOfParticle_X1_placeIn
set_option maxRecDepth 20000 in
theorem ggX4_tellOfParticle_X5_weightOf : GoodIn wsX4_tellOfParticle wsX5_weightOf := goodIn_r _ [25, 26, 70, 71] (by decide +kernel) (by decide +kernel)
set_option maxRecDepth 20000 in
theorem gX4_tellOfParticle_X5_weightOf : GoodIn wsX4_tellOfParticle (wsV RX4 96 RX5 yX5_weightOf wsX5_weightOf) := goodIn_app (goodIn_of _ (by decide +kernel)) ggX4_tellOfParticle_X5_weightOf
set_option maxRecDepth 20000 in
theorem ggX4_tellOfParticle_X1_parentIn : GoodIn wsX4_tellOfParticle wsX1_parentIn := goodIn_r _ [30, 31, 15, 16, 17, 18, 19, 20, 61, 62, 63, 64, 65, 66, 67, 68, 69] (by decide +kernel) (by decide +kernel)
set_option maxRecDepth 20000 in
theorem gX4_tellOfParticle_X1_parentIn : GoodIn wsX4_tellOfParticle (wsV RX4 164 RX1 yX1_parentIn wsX1_parentIn) := goodIn_app (goodIn_of _ (by decide +kernel)) ggX4_tellOfParticle_X1_parentIn
set_option maxRecDepth 20000 in
theorem ggX4_tellOfParticle_X1_howManyAt : GoodIn wsX4_tellOfParticle wsX1_howManyAt := goodIn_r _ [35, 36, 37, 11, 12, 7, 13, 14, 15, 16, 17, 18, 19, 20, 61, 62, 63, 64, 65, 66, 67, 68, 69] (by decide +kernel) (by decide +kernel)
set_option maxRecDepth 20000 in
theorem gX4_tellOfParticle_X1_howManyAt : GoodIn wsX4_tellOfParticle (wsV RX4 167 RX1 yX1_howManyAt wsX1_howManyAt) := goodIn_app (goodIn_of _ (by decide +kernel)) ggX4_tellOfParticle_X1_howManyAt
set_option maxRecDepth 20000 in
theorem ggX4_tellOfParticle_X5_sum : GoodIn wsX4_tellOfParticle wsX5_sum := goodIn_r _ [41, 42, 26, 70, 71] (by decide +kernel) (by decide +kernel)
set_option maxRecDepth 20000 in
theorem gX4_tellOfParticle_X5_sum : GoodIn wsX4_tellOfParticle (wsV RX4 170 RX5 yX5_sum wsX5_sum) := goodIn_app (goodIn_of _ (by decide +kernel)) ggX4_tellOfParticle_X5_sum
set_option maxRecDepth 20000 in
theorem ggX4_tellOfParticle_X6_partInLowestTerms : GoodIn wsX4_tellOfParticle wsX6_partInLowestTerms := goodIn_r _ [45, 46, 47, 44, 48] (by decide +kernel) (by decide +kernel)
set_option maxRecDepth 20000 in
theorem gX4_tellOfParticle_X6_partInLowestTerms_n174 : GoodIn wsX4_tellOfParticle (wsX6_partInLowestTerms) := ggX4_tellOfParticle_X6_partInLowestTerms
set_option maxRecDepth 20000 in
theorem ggX4_tellOfParticle_X5_howManyAheadOf : GoodIn wsX4_tellOfParticle wsX5_howManyAheadOf := goodIn_r _ [52, 42, 26, 53, 22, 23, 24, 25, 70, 71] (by decide +kernel) (by decide +kernel)
set_option maxRecDepth 20000 in
theorem gX4_tellOfParticle_X5_howManyAheadOf : GoodIn wsX4_tellOfParticle (wsV RX4 178 RX5 yX5_howManyAheadOf wsX5_howManyAheadOf) := goodIn_app (goodIn_of _ (by decide +kernel)) ggX4_tellOfParticle_X5_howManyAheadOf
theorem dX4_tellOfParticle_0 : decode cX4_tellOfParticle 0 = .ok (.aload_n 0, 1) := by decide +kernel
theorem dX4_tellOfParticle_1 : decode cX4_tellOfParticle 1 = .ok (.getfield 12, 3) := by decide +kernel
theorem dX4_tellOfParticle_4 : decode cX4_tellOfParticle 4 = .ok (.invokevirtual 101, 3) := by decide +kernel
theorem dX4_tellOfParticle_7 : decode cX4_tellOfParticle 7 = .ok (.istore_n 3, 1) := by decide +kernel
theorem dX4_tellOfParticle_8 : decode cX4_tellOfParticle 8 = .ok (.aload_n 0, 1) := by decide +kernel
theorem dX4_tellOfParticle_9 : decode cX4_tellOfParticle 9 = .ok (.getfield 12, 3) := by decide +kernel
theorem dX4_tellOfParticle_12 : decode cX4_tellOfParticle 12 = .ok (.iload_n 3, 1) := by decide +kernel
theorem dX4_tellOfParticle_13 : decode cX4_tellOfParticle 13 = .ok (.iload_n 1, 1) := by decide +kernel
theorem dX4_tellOfParticle_14 : decode cX4_tellOfParticle 14 = .ok (.invokevirtual 113, 3) := by decide +kernel
theorem dX4_tellOfParticle_17 : decode cX4_tellOfParticle 17 = .ok (.istore 4, 2) := by decide +kernel
theorem dX4_tellOfParticle_19 : decode cX4_tellOfParticle 19 = .ok (.aload_n 0, 1) := by decide +kernel
theorem dX4_tellOfParticle_20 : decode cX4_tellOfParticle 20 = .ok (.getfield 21, 3) := by decide +kernel
theorem dX4_tellOfParticle_23 : decode cX4_tellOfParticle 23 = .ok (.iload_n 1, 1) := by decide +kernel
theorem dX4_tellOfParticle_24 : decode cX4_tellOfParticle 24 = .ok (.invokevirtual 96, 3) := by decide +kernel
theorem dX4_tellOfParticle_27 : decode cX4_tellOfParticle 27 = .ok (.istore 5, 2) := by decide +kernel
theorem dX4_tellOfParticle_29 : decode cX4_tellOfParticle 29 = .ok (.iload_n 2, 1) := by decide +kernel
theorem dX4_tellOfParticle_30 : decode cX4_tellOfParticle 30 = .ok (.tableswitch 104 0 5 #[38, 41, 44, 63, 74, 89], 38) := by decide +kernel
theorem dX4_tellOfParticle_68 : decode cX4_tellOfParticle 68 = .ok (.iload 4, 2) := by decide +kernel
theorem dX4_tellOfParticle_70 : decode cX4_tellOfParticle 70 = .ok (.ireturn, 1) := by decide +kernel
theorem dX4_tellOfParticle_71 : decode cX4_tellOfParticle 71 = .ok (.iload 5, 2) := by decide +kernel
theorem dX4_tellOfParticle_73 : decode cX4_tellOfParticle 73 = .ok (.ireturn, 1) := by decide +kernel
theorem dX4_tellOfParticle_74 : decode cX4_tellOfParticle 74 = .ok (.iload_n 3, 1) := by decide +kernel
theorem dX4_tellOfParticle_75 : decode cX4_tellOfParticle 75 = .ok (.ifCond .ne 8, 3) := by decide +kernel
theorem dX4_tellOfParticle_78 : decode cX4_tellOfParticle 78 = .ok (.ldc 163, 2) := by decide +kernel
theorem dX4_tellOfParticle_80 : decode cX4_tellOfParticle 80 = .ok (.goto 12, 3) := by decide +kernel
theorem dX4_tellOfParticle_83 : decode cX4_tellOfParticle 83 = .ok (.aload_n 0, 1) := by decide +kernel
theorem dX4_tellOfParticle_84 : decode cX4_tellOfParticle 84 = .ok (.getfield 12, 3) := by decide +kernel
theorem dX4_tellOfParticle_87 : decode cX4_tellOfParticle 87 = .ok (.iload_n 3, 1) := by decide +kernel
theorem dX4_tellOfParticle_88 : decode cX4_tellOfParticle 88 = .ok (.iload_n 1, 1) := by decide +kernel
theorem dX4_tellOfParticle_89 : decode cX4_tellOfParticle 89 = .ok (.invokevirtual 164, 3) := by decide +kernel
theorem dX4_tellOfParticle_92 : decode cX4_tellOfParticle 92 = .ok (.ireturn, 1) := by decide +kernel
theorem dX4_tellOfParticle_93 : decode cX4_tellOfParticle 93 = .ok (.aload_n 0, 1) := by decide +kernel
theorem dX4_tellOfParticle_94 : decode cX4_tellOfParticle 94 = .ok (.getfield 12, 3) := by decide +kernel
theorem dX4_tellOfParticle_97 : decode cX4_tellOfParticle 97 = .ok (.iload_n 3, 1) := by decide +kernel
theorem dX4_tellOfParticle_98 : decode cX4_tellOfParticle 98 = .ok (.iload 4, 2) := by decide +kernel
theorem dX4_tellOfParticle_100 : decode cX4_tellOfParticle 100 = .ok (.invokevirtual 167, 3) := by decide +kernel
theorem dX4_tellOfParticle_103 : decode cX4_tellOfParticle 103 = .ok (.ireturn, 1) := by decide +kernel
theorem dX4_tellOfParticle_104 : decode cX4_tellOfParticle 104 = .ok (.iload 5, 2) := by decide +kernel
theorem dX4_tellOfParticle_106 : decode cX4_tellOfParticle 106 = .ok (.i2l, 1) := by decide +kernel
theorem dX4_tellOfParticle_107 : decode cX4_tellOfParticle 107 = .ok (.aload_n 0, 1) := by decide +kernel
theorem dX4_tellOfParticle_108 : decode cX4_tellOfParticle 108 = .ok (.getfield 21, 3) := by decide +kernel
theorem dX4_tellOfParticle_111 : decode cX4_tellOfParticle 111 = .ok (.invokevirtual 170, 3) := by decide +kernel
theorem dX4_tellOfParticle_114 : decode cX4_tellOfParticle 114 = .ok (.iconst 0, 1) := by decide +kernel
theorem dX4_tellOfParticle_115 : decode cX4_tellOfParticle 115 = .ok (.invokestatic 174, 3) := by decide +kernel
theorem dX4_tellOfParticle_118 : decode cX4_tellOfParticle 118 = .ok (.ireturn, 1) := by decide +kernel
theorem dX4_tellOfParticle_119 : decode cX4_tellOfParticle 119 = .ok (.iload 5, 2) := by decide +kernel
theorem dX4_tellOfParticle_121 : decode cX4_tellOfParticle 121 = .ok (.i2l, 1) := by decide +kernel
theorem dX4_tellOfParticle_122 : decode cX4_tellOfParticle 122 = .ok (.aload_n 0, 1) := by decide +kernel
theorem dX4_tellOfParticle_123 : decode cX4_tellOfParticle 123 = .ok (.getfield 21, 3) := by decide +kernel
theorem dX4_tellOfParticle_126 : decode cX4_tellOfParticle 126 = .ok (.invokevirtual 170, 3) := by decide +kernel
theorem dX4_tellOfParticle_129 : decode cX4_tellOfParticle 129 = .ok (.iconst 1, 1) := by decide +kernel
theorem dX4_tellOfParticle_130 : decode cX4_tellOfParticle 130 = .ok (.invokestatic 174, 3) := by decide +kernel
theorem dX4_tellOfParticle_133 : decode cX4_tellOfParticle 133 = .ok (.ireturn, 1) := by decide +kernel
theorem dX4_tellOfParticle_134 : decode cX4_tellOfParticle 134 = .ok (.aload_n 0, 1) := by decide +kernel
theorem dX4_tellOfParticle_135 : decode cX4_tellOfParticle 135 = .ok (.getfield 21, 3) := by decide +kernel
theorem dX4_tellOfParticle_138 : decode cX4_tellOfParticle 138 = .ok (.iload_n 1, 1) := by decide +kernel
theorem dX4_tellOfParticle_139 : decode cX4_tellOfParticle 139 = .ok (.invokevirtual 178, 3) := by decide +kernel
theorem dX4_tellOfParticle_142 : decode cX4_tellOfParticle 142 = .ok (.ireturn, 1) := by decide +kernel
set_option maxRecDepth 20000 in
theorem ggX4_tellOfGeneration_X1_originOf : GoodIn wsX4_tellOfGeneration wsX1_originOf := goodIn_r _ [7, 8, 9, 10, 11, 12, 13, 14, 72, 73, 74, 75, 76, 77, 78, 79, 80] (by decide +kernel) (by decide +kernel)
set_option maxRecDepth 20000 in
theorem gX4_tellOfGeneration_X1_originOf : GoodIn wsX4_tellOfGeneration (wsV RX4 181 RX1 yX1_originOf wsX1_originOf) := goodIn_app (goodIn_of _ (by decide +kernel)) ggX4_tellOfGeneration_X1_originOf
set_option maxRecDepth 20000 in
theorem ggX4_tellOfGeneration_X1_driftOf : GoodIn wsX4_tellOfGeneration wsX1_driftOf := goodIn_r _ [18, 19, 9, 10, 11, 12, 13, 14, 72, 73, 74, 75, 76, 77, 78, 79, 80] (by decide +kernel) (by decide +kernel)
set_option maxRecDepth 20000 in
theorem gX4_tellOfGeneration_X1_driftOf : GoodIn wsX4_tellOfGeneration (wsV RX4 184 RX1 yX1_driftOf wsX1_driftOf) := goodIn_app (goodIn_of _ (by decide +kernel)) ggX4_tellOfGeneration_X1_driftOf
set_option maxRecDepth 20000 in
theorem ggX4_tellOfGeneration_X1_spreadOf : GoodIn wsX4_tellOfGeneration wsX1_spreadOf := goodIn_r _ [23, 24, 9, 10, 11, 12, 13, 14, 72, 73, 74, 75, 76, 77, 78, 79, 80] (by decide +kernel) (by decide +kernel)
set_option maxRecDepth 20000 in
theorem gX4_tellOfGeneration_X1_spreadOf : GoodIn wsX4_tellOfGeneration (wsV RX4 187 RX1 yX1_spreadOf wsX1_spreadOf) := goodIn_app (goodIn_of _ (by decide +kernel)) ggX4_tellOfGeneration_X1_spreadOf
set_option maxRecDepth 20000 in
theorem ggX4_tellOfGeneration_X1_schemeOf : GoodIn wsX4_tellOfGeneration wsX1_schemeOf := goodIn_r _ [28, 29, 9, 10, 11, 12, 13, 14, 72, 73, 74, 75, 76, 77, 78, 79, 80] (by decide +kernel) (by decide +kernel)
set_option maxRecDepth 20000 in
theorem gX4_tellOfGeneration_X1_schemeOf : GoodIn wsX4_tellOfGeneration (wsV RX4 190 RX1 yX1_schemeOf wsX1_schemeOf) := goodIn_app (goodIn_of _ (by decide +kernel)) ggX4_tellOfGeneration_X1_schemeOf
set_option maxRecDepth 20000 in
theorem ggX4_tellOfGeneration_X1_howManyAreAncestors : GoodIn wsX4_tellOfGeneration wsX1_howManyAreAncestors := goodIn_r _ [33, 34, 35, 36, 37, 6, 38, 39, 40, 41, 42, 43, 44, 9, 10, 11, 12, 13, 14, 45, 46, 47, 48, 49, 50, 51, 72, 73, 74, 75, 76, 77, 78, 79, 80] (by decide +kernel) (by decide +kernel)
set_option maxRecDepth 20000 in
theorem gX4_tellOfGeneration_X1_howManyAreAncestors : GoodIn wsX4_tellOfGeneration (wsV RX4 157 RX1 yX1_howManyAreAncestors wsX1_howManyAreAncestors) := goodIn_app (goodIn_of _ (by decide +kernel)) ggX4_tellOfGeneration_X1_howManyAreAncestors
set_option maxRecDepth 20000 in
theorem ggX4_tellOfGeneration_X1_howManyUnlikePlaces : GoodIn wsX4_tellOfGeneration wsX1_howManyUnlikePlaces := goodIn_r _ [55, 34, 56, 57, 58, 6, 59, 60, 61, 62, 63, 64, 9, 10, 11, 12, 13, 14, 72, 73, 74, 75, 76, 77, 78, 79, 80] (by decide +kernel) (by decide +kernel)
set_option maxRecDepth 20000 in
theorem gX4_tellOfGeneration_X1_howManyUnlikePlaces : GoodIn wsX4_tellOfGeneration (wsV RX4 193 RX1 yX1_howManyUnlikePlaces wsX1_howManyUnlikePlaces) := goodIn_app (goodIn_of _ (by decide +kernel)) ggX4_tellOfGeneration_X1_howManyUnlikePlaces
theorem dX4_tellOfGeneration_0 : decode cX4_tellOfGeneration 0 = .ok (.aload_n 0, 1) := by decide +kernel
theorem dX4_tellOfGeneration_1 : decode cX4_tellOfGeneration 1 = .ok (.getfield 12, 3) := by decide +kernel
theorem dX4_tellOfGeneration_4 : decode cX4_tellOfGeneration 4 = .ok (.iload_n 1, 1) := by decide +kernel
theorem dX4_tellOfGeneration_5 : decode cX4_tellOfGeneration 5 = .ok (.invokevirtual 181, 3) := by decide +kernel
theorem dX4_tellOfGeneration_8 : decode cX4_tellOfGeneration 8 = .ok (.istore_n 3, 1) := by decide +kernel
theorem dX4_tellOfGeneration_9 : decode cX4_tellOfGeneration 9 = .ok (.iload_n 2, 1) := by decide +kernel
theorem dX4_tellOfGeneration_10 : decode cX4_tellOfGeneration 10 = .ok (.tableswitch 105 0 4 #[34, 36, 58, 77, 96], 34) := by decide +kernel
theorem dX4_tellOfGeneration_44 : decode cX4_tellOfGeneration 44 = .ok (.iload_n 3, 1) := by decide +kernel
theorem dX4_tellOfGeneration_45 : decode cX4_tellOfGeneration 45 = .ok (.ireturn, 1) := by decide +kernel
theorem dX4_tellOfGeneration_46 : decode cX4_tellOfGeneration 46 = .ok (.iload_n 3, 1) := by decide +kernel
theorem dX4_tellOfGeneration_47 : decode cX4_tellOfGeneration 47 = .ok (.iconst 1, 1) := by decide +kernel
theorem dX4_tellOfGeneration_48 : decode cX4_tellOfGeneration 48 = .ok (.if_icmp .ne 17, 3) := by decide +kernel
theorem dX4_tellOfGeneration_51 : decode cX4_tellOfGeneration 51 = .ok (.aload_n 0, 1) := by decide +kernel
theorem dX4_tellOfGeneration_52 : decode cX4_tellOfGeneration 52 = .ok (.getfield 12, 3) := by decide +kernel
theorem dX4_tellOfGeneration_55 : decode cX4_tellOfGeneration 55 = .ok (.iload_n 1, 1) := by decide +kernel
theorem dX4_tellOfGeneration_56 : decode cX4_tellOfGeneration 56 = .ok (.invokevirtual 184, 3) := by decide +kernel
theorem dX4_tellOfGeneration_59 : decode cX4_tellOfGeneration 59 = .ok (.bipush 100, 2) := by decide +kernel
theorem dX4_tellOfGeneration_61 : decode cX4_tellOfGeneration 61 = .ok (.iadd, 1) := by decide +kernel
theorem dX4_tellOfGeneration_62 : decode cX4_tellOfGeneration 62 = .ok (.goto 5, 3) := by decide +kernel
theorem dX4_tellOfGeneration_65 : decode cX4_tellOfGeneration 65 = .ok (.ldc 163, 2) := by decide +kernel
theorem dX4_tellOfGeneration_67 : decode cX4_tellOfGeneration 67 = .ok (.ireturn, 1) := by decide +kernel
theorem dX4_tellOfGeneration_68 : decode cX4_tellOfGeneration 68 = .ok (.iload_n 3, 1) := by decide +kernel
theorem dX4_tellOfGeneration_69 : decode cX4_tellOfGeneration 69 = .ok (.iconst 1, 1) := by decide +kernel
theorem dX4_tellOfGeneration_70 : decode cX4_tellOfGeneration 70 = .ok (.if_icmp .ne 14, 3) := by decide +kernel
theorem dX4_tellOfGeneration_73 : decode cX4_tellOfGeneration 73 = .ok (.aload_n 0, 1) := by decide +kernel
theorem dX4_tellOfGeneration_74 : decode cX4_tellOfGeneration 74 = .ok (.getfield 12, 3) := by decide +kernel
theorem dX4_tellOfGeneration_77 : decode cX4_tellOfGeneration 77 = .ok (.iload_n 1, 1) := by decide +kernel
theorem dX4_tellOfGeneration_78 : decode cX4_tellOfGeneration 78 = .ok (.invokevirtual 187, 3) := by decide +kernel
theorem dX4_tellOfGeneration_81 : decode cX4_tellOfGeneration 81 = .ok (.goto 5, 3) := by decide +kernel
theorem dX4_tellOfGeneration_84 : decode cX4_tellOfGeneration 84 = .ok (.ldc 163, 2) := by decide +kernel
theorem dX4_tellOfGeneration_86 : decode cX4_tellOfGeneration 86 = .ok (.ireturn, 1) := by decide +kernel
theorem dX4_tellOfGeneration_87 : decode cX4_tellOfGeneration 87 = .ok (.iload_n 3, 1) := by decide +kernel
theorem dX4_tellOfGeneration_88 : decode cX4_tellOfGeneration 88 = .ok (.iconst 2, 1) := by decide +kernel
theorem dX4_tellOfGeneration_89 : decode cX4_tellOfGeneration 89 = .ok (.if_icmp .ne 14, 3) := by decide +kernel
theorem dX4_tellOfGeneration_92 : decode cX4_tellOfGeneration 92 = .ok (.aload_n 0, 1) := by decide +kernel
theorem dX4_tellOfGeneration_93 : decode cX4_tellOfGeneration 93 = .ok (.getfield 12, 3) := by decide +kernel
theorem dX4_tellOfGeneration_96 : decode cX4_tellOfGeneration 96 = .ok (.iload_n 1, 1) := by decide +kernel
theorem dX4_tellOfGeneration_97 : decode cX4_tellOfGeneration 97 = .ok (.invokevirtual 190, 3) := by decide +kernel
theorem dX4_tellOfGeneration_100 : decode cX4_tellOfGeneration 100 = .ok (.goto 5, 3) := by decide +kernel
theorem dX4_tellOfGeneration_103 : decode cX4_tellOfGeneration 103 = .ok (.ldc 163, 2) := by decide +kernel
theorem dX4_tellOfGeneration_105 : decode cX4_tellOfGeneration 105 = .ok (.ireturn, 1) := by decide +kernel
theorem dX4_tellOfGeneration_106 : decode cX4_tellOfGeneration 106 = .ok (.aload_n 0, 1) := by decide +kernel
theorem dX4_tellOfGeneration_107 : decode cX4_tellOfGeneration 107 = .ok (.getfield 12, 3) := by decide +kernel
theorem dX4_tellOfGeneration_110 : decode cX4_tellOfGeneration 110 = .ok (.iload_n 1, 1) := by decide +kernel
theorem dX4_tellOfGeneration_111 : decode cX4_tellOfGeneration 111 = .ok (.invokevirtual 157, 3) := by decide +kernel
theorem dX4_tellOfGeneration_114 : decode cX4_tellOfGeneration 114 = .ok (.ireturn, 1) := by decide +kernel
theorem dX4_tellOfGeneration_115 : decode cX4_tellOfGeneration 115 = .ok (.aload_n 0, 1) := by decide +kernel
theorem dX4_tellOfGeneration_116 : decode cX4_tellOfGeneration 116 = .ok (.getfield 12, 3) := by decide +kernel
theorem dX4_tellOfGeneration_119 : decode cX4_tellOfGeneration 119 = .ok (.iload_n 1, 1) := by decide +kernel
theorem dX4_tellOfGeneration_120 : decode cX4_tellOfGeneration 120 = .ok (.invokevirtual 193, 3) := by decide +kernel
theorem dX4_tellOfGeneration_123 : decode cX4_tellOfGeneration 123 = .ok (.ireturn, 1) := by decide +kernel
set_option maxRecDepth 20000 in
theorem ggX4_tellOfAncestor_X1_ancestorIn : GoodIn wsX4_tellOfAncestor wsX1_ancestorIn := goodIn_r _ [6, 7, 8, 9, 10, 5, 11, 12, 13, 14, 15, 16, 17, 18, 31, 32, 33, 34, 35, 36, 37, 38, 39] (by decide +kernel) (by decide +kernel)
set_option maxRecDepth 20000 in
theorem gX4_tellOfAncestor_X1_ancestorIn : GoodIn wsX4_tellOfAncestor (wsV RX4 196 RX1 yX1_ancestorIn wsX1_ancestorIn) := goodIn_app (goodIn_of _ (by decide +kernel)) ggX4_tellOfAncestor_X1_ancestorIn
set_option maxRecDepth 20000 in
theorem ggX4_tellOfAncestor_X1_placeIn : GoodIn wsX4_tellOfAncestor wsX1_placeIn := goodIn_r _ [22, 23, 13, 14, 15, 16, 17, 18, 31, 32, 33, 34, 35, 36, 37, 38, 39] (by decide +kernel) (by decide +kernel)
set_option maxRecDepth 20000 in
theorem gX4_tellOfAncestor_X1_placeIn : GoodIn wsX4_tellOfAncestor (wsV RX4 113 RX1 yX1_placeIn wsX1_placeIn) := goodIn_app (goodIn_of _ (by decide +kernel)) ggX4_tellOfAncestor_X1_placeIn
theorem dX4_tellOfAncestor_0 : decode cX4_tellOfAncestor 0 = .ok (.aload_n 0, 1) := by decide +kernel
theorem dX4_tellOfAncestor_1 : decode cX4_tellOfAncestor 1 = .ok (.getfield 12, 3) := by decide +kernel
theorem dX4_tellOfAncestor_4 : decode cX4_tellOfAncestor 4 = .ok (.iload_n 2, 1) := by decide +kernel
theorem dX4_tellOfAncestor_5 : decode cX4_tellOfAncestor 5 = .ok (.iload_n 1, 1) := by decide +kernel
theorem dX4_tellOfAncestor_6 : decode cX4_tellOfAncestor 6 = .ok (.invokevirtual 196, 3) := by decide +kernel
theorem dX4_tellOfAncestor_9 : decode cX4_tellOfAncestor 9 = .ok (.istore 4, 2) := by decide +kernel
theorem dX4_tellOfAncestor_11 : decode cX4_tellOfAncestor 11 = .ok (.iload_n 3, 1) := by decide +kernel
theorem dX4_tellOfAncestor_12 : decode cX4_tellOfAncestor 12 = .ok (.ifCond .ne 8, 3) := by decide +kernel
theorem dX4_tellOfAncestor_15 : decode cX4_tellOfAncestor 15 = .ok (.iload 4, 2) := by decide +kernel
theorem dX4_tellOfAncestor_17 : decode cX4_tellOfAncestor 17 = .ok (.goto 13, 3) := by decide +kernel
theorem dX4_tellOfAncestor_20 : decode cX4_tellOfAncestor 20 = .ok (.aload_n 0, 1) := by decide +kernel
theorem dX4_tellOfAncestor_21 : decode cX4_tellOfAncestor 21 = .ok (.getfield 12, 3) := by decide +kernel
theorem dX4_tellOfAncestor_24 : decode cX4_tellOfAncestor 24 = .ok (.iload_n 2, 1) := by decide +kernel
theorem dX4_tellOfAncestor_25 : decode cX4_tellOfAncestor 25 = .ok (.iload 4, 2) := by decide +kernel
theorem dX4_tellOfAncestor_27 : decode cX4_tellOfAncestor 27 = .ok (.invokevirtual 113, 3) := by decide +kernel
theorem dX4_tellOfAncestor_30 : decode cX4_tellOfAncestor 30 = .ok (.ireturn, 1) := by decide +kernel
set_option maxRecDepth 20000 in
theorem ggX4_meetingOfTwo_X1_meetingOf : GoodIn wsX4_meetingOfTwo wsX1_meetingOf := goodIn_r _ [6, 7, 8, 9, 10, 5, 11, 12, 13, 14, 15, 16, 17, 18, 19, 20, 21, 22, 23, 31, 32, 33, 34, 35, 36, 37, 38, 39] (by decide +kernel) (by decide +kernel)
set_option maxRecDepth 20000 in
theorem gX4_meetingOfTwo_X1_meetingOf : GoodIn wsX4_meetingOfTwo (wsV RX4 199 RX1 yX1_meetingOf wsX1_meetingOf) := goodIn_app (goodIn_of _ (by decide +kernel)) ggX4_meetingOfTwo_X1_meetingOf
theorem dX4_meetingOfTwo_0 : decode cX4_meetingOfTwo 0 = .ok (.aload_n 0, 1) := by decide +kernel
theorem dX4_meetingOfTwo_1 : decode cX4_meetingOfTwo 1 = .ok (.getfield 12, 3) := by decide +kernel
theorem dX4_meetingOfTwo_4 : decode cX4_meetingOfTwo 4 = .ok (.iload_n 1, 1) := by decide +kernel
theorem dX4_meetingOfTwo_5 : decode cX4_meetingOfTwo 5 = .ok (.iload_n 2, 1) := by decide +kernel
theorem dX4_meetingOfTwo_6 : decode cX4_meetingOfTwo 6 = .ok (.invokevirtual 199, 3) := by decide +kernel
theorem dX4_meetingOfTwo_9 : decode cX4_meetingOfTwo 9 = .ok (.ireturn, 1) := by decide +kernel
set_option maxRecDepth 20000 in
theorem ggX4_meetingOfAll_X1_latest : GoodIn wsX4_meetingOfAll wsX1_latest := goodIn_r _ [10, 11, 41, 42, 43, 44, 45, 46, 47, 48] (by decide +kernel) (by decide +kernel)
set_option maxRecDepth 20000 in
theorem gX4_meetingOfAll_X1_latest : GoodIn wsX4_meetingOfAll (wsV RX4 101 RX1 yX1_latest wsX1_latest) := goodIn_app (goodIn_of _ (by decide +kernel)) ggX4_meetingOfAll_X1_latest
set_option maxRecDepth 20000 in
theorem ggX4_meetingOfAll_X1_many : GoodIn wsX4_meetingOfAll wsX1_many := goodIn_r _ [15, 16, 41, 42, 43, 44, 45, 46, 47, 48] (by decide +kernel) (by decide +kernel)
set_option maxRecDepth 20000 in
theorem gX4_meetingOfAll_X1_many : GoodIn wsX4_meetingOfAll (wsV RX4 107 RX1 yX1_many wsX1_many) := goodIn_app (goodIn_of _ (by decide +kernel)) ggX4_meetingOfAll_X1_many
set_option maxRecDepth 20000 in
theorem ggX4_meetingOfAll_X1_meetingOf : GoodIn wsX4_meetingOfAll wsX1_meetingOf := goodIn_r _ [20, 21, 22, 7, 8, 9, 10, 11, 23, 24, 25, 26, 27, 28, 29, 30, 31, 32, 33, 41, 42, 43, 44, 45, 46, 47, 48, 49] (by decide +kernel) (by decide +kernel)
set_option maxRecDepth 20000 in
theorem gX4_meetingOfAll_X1_meetingOf : GoodIn wsX4_meetingOfAll (wsV RX4 199 RX1 yX1_meetingOf wsX1_meetingOf) := goodIn_app (goodIn_of _ (by decide +kernel)) ggX4_meetingOfAll_X1_meetingOf
theorem dX4_meetingOfAll_0 : decode cX4_meetingOfAll 0 = .ok (.aload_n 0, 1) := by decide +kernel
theorem dX4_meetingOfAll_1 : decode cX4_meetingOfAll 1 = .ok (.getfield 12, 3) := by decide +kernel
theorem dX4_meetingOfAll_4 : decode cX4_meetingOfAll 4 = .ok (.invokevirtual 101, 3) := by decide +kernel
theorem dX4_meetingOfAll_7 : decode cX4_meetingOfAll 7 = .ok (.istore_n 1, 1) := by decide +kernel
theorem dX4_meetingOfAll_8 : decode cX4_meetingOfAll 8 = .ok (.iconst 1, 1) := by decide +kernel
theorem dX4_meetingOfAll_9 : decode cX4_meetingOfAll 9 = .ok (.istore_n 2, 1) := by decide +kernel
theorem dX4_meetingOfAll_10 : decode cX4_meetingOfAll 10 = .ok (.iload_n 2, 1) := by decide +kernel
theorem dX4_meetingOfAll_11 : decode cX4_meetingOfAll 11 = .ok (.aload_n 0, 1) := by decide +kernel
theorem dX4_meetingOfAll_12 : decode cX4_meetingOfAll 12 = .ok (.getfield 12, 3) := by decide +kernel
theorem dX4_meetingOfAll_15 : decode cX4_meetingOfAll 15 = .ok (.invokevirtual 107, 3) := by decide +kernel
theorem dX4_meetingOfAll_18 : decode cX4_meetingOfAll 18 = .ok (.if_icmp .ge 23, 3) := by decide +kernel
theorem dX4_meetingOfAll_21 : decode cX4_meetingOfAll 21 = .ok (.iload_n 1, 1) := by decide +kernel
theorem dX4_meetingOfAll_22 : decode cX4_meetingOfAll 22 = .ok (.aload_n 0, 1) := by decide +kernel
theorem dX4_meetingOfAll_23 : decode cX4_meetingOfAll 23 = .ok (.getfield 12, 3) := by decide +kernel
theorem dX4_meetingOfAll_26 : decode cX4_meetingOfAll 26 = .ok (.iconst 0, 1) := by decide +kernel
theorem dX4_meetingOfAll_27 : decode cX4_meetingOfAll 27 = .ok (.iload_n 2, 1) := by decide +kernel
theorem dX4_meetingOfAll_28 : decode cX4_meetingOfAll 28 = .ok (.invokevirtual 199, 3) := by decide +kernel
theorem dX4_meetingOfAll_31 : decode cX4_meetingOfAll 31 = .ok (.invokestatic 202, 3) := by decide +kernel
theorem dX4_meetingOfAll_34 : decode cX4_meetingOfAll 34 = .ok (.istore_n 1, 1) := by decide +kernel
theorem dX4_meetingOfAll_35 : decode cX4_meetingOfAll 35 = .ok (.iinc 2 1, 3) := by decide +kernel
theorem dX4_meetingOfAll_38 : decode cX4_meetingOfAll 38 = .ok (.goto (-28), 3) := by decide +kernel
theorem dX4_meetingOfAll_41 : decode cX4_meetingOfAll 41 = .ok (.iload_n 1, 1) := by decide +kernel
theorem dX4_meetingOfAll_42 : decode cX4_meetingOfAll 42 = .ok (.ireturn, 1) := by decide +kernel
set_option maxRecDepth 20000 in
theorem ggX4_partOfMean_X1_many : GoodIn wsX4_partOfMean wsX1_many := goodIn_r _ [7, 8, 54, 55, 56, 57, 58, 59, 60, 61] (by decide +kernel) (by decide +kernel)
set_option maxRecDepth 20000 in
theorem gX4_partOfMean_X1_many : GoodIn wsX4_partOfMean (wsV RX4 107 RX1 yX1_many wsX1_many) := goodIn_app (goodIn_of _ (by decide +kernel)) ggX4_partOfMean_X1_many
set_option maxRecDepth 20000 in
theorem ggX4_partOfMean_X1_ancestorIn : GoodIn wsX4_partOfMean wsX1_ancestorIn := goodIn_r _ [12, 13, 14, 15, 16, 6, 17, 18, 19, 20, 21, 22, 23, 24, 54, 55, 56, 57, 58, 59, 60, 61, 62] (by decide +kernel) (by decide +kernel)
set_option maxRecDepth 20000 in
theorem gX4_partOfMean_X1_ancestorIn : GoodIn wsX4_partOfMean (wsV RX4 196 RX1 yX1_ancestorIn wsX1_ancestorIn) := goodIn_app (goodIn_of _ (by decide +kernel)) ggX4_partOfMean_X1_ancestorIn
set_option maxRecDepth 20000 in
theorem ggX4_partOfMean_X1_placeIn : GoodIn wsX4_partOfMean wsX1_placeIn := goodIn_r _ [28, 29, 19, 20, 21, 22, 23, 24, 54, 55, 56, 57, 58, 59, 60, 61, 62] (by decide +kernel) (by decide +kernel)
set_option maxRecDepth 20000 in
theorem gX4_partOfMean_X1_placeIn : GoodIn wsX4_partOfMean (wsV RX4 113 RX1 yX1_placeIn wsX1_placeIn) := goodIn_app (goodIn_of _ (by decide +kernel)) ggX4_partOfMean_X1_placeIn
set_option maxRecDepth 20000 in
theorem ggX4_partOfMean_X5_weightOf : GoodIn wsX4_partOfMean wsX5_weightOf := goodIn_r _ [34, 35, 63, 64] (by decide +kernel) (by decide +kernel)
set_option maxRecDepth 20000 in
theorem gX4_partOfMean_X5_weightOf : GoodIn wsX4_partOfMean (wsV RX4 96 RX5 yX5_weightOf wsX5_weightOf) := goodIn_app (goodIn_of _ (by decide +kernel)) ggX4_partOfMean_X5_weightOf
set_option maxRecDepth 20000 in
theorem ggX4_partOfMean_X5_sum : GoodIn wsX4_partOfMean wsX5_sum := goodIn_r _ [39, 40, 35, 63, 64] (by decide +kernel) (by decide +kernel)
set_option maxRecDepth 20000 in
theorem gX4_partOfMean_X5_sum : GoodIn wsX4_partOfMean (wsV RX4 170 RX5 yX5_sum wsX5_sum) := goodIn_app (goodIn_of _ (by decide +kernel)) ggX4_partOfMean_X5_sum
set_option maxRecDepth 20000 in
theorem ggX4_partOfMean_X6_partInLowestTerms : GoodIn wsX4_partOfMean wsX6_partInLowestTerms := goodIn_r _ [43, 44, 45, 42, 46] (by decide +kernel) (by decide +kernel)
set_option maxRecDepth 20000 in
theorem gX4_partOfMean_X6_partInLowestTerms_n174 : GoodIn wsX4_partOfMean (wsX6_partInLowestTerms) := ggX4_partOfMean_X6_partInLowestTerms
theorem dX4_partOfMean_0 : decode cX4_partOfMean 0 = .ok (.lconst 0, 1) := by decide +kernel
theorem dX4_partOfMean_1 : decode cX4_partOfMean 1 = .ok (.lstore_n 3, 1) := by decide +kernel
theorem dX4_partOfMean_2 : decode cX4_partOfMean 2 = .ok (.iconst 0, 1) := by decide +kernel
theorem dX4_partOfMean_3 : decode cX4_partOfMean 3 = .ok (.istore 5, 2) := by decide +kernel
theorem dX4_partOfMean_5 : decode cX4_partOfMean 5 = .ok (.iload 5, 2) := by decide +kernel
theorem dX4_partOfMean_7 : decode cX4_partOfMean 7 = .ok (.aload_n 0, 1) := by decide +kernel
theorem dX4_partOfMean_8 : decode cX4_partOfMean 8 = .ok (.getfield 12, 3) := by decide +kernel
theorem dX4_partOfMean_11 : decode cX4_partOfMean 11 = .ok (.invokevirtual 107, 3) := by decide +kernel
theorem dX4_partOfMean_14 : decode cX4_partOfMean 14 = .ok (.if_icmp .ge 46, 3) := by decide +kernel
theorem dX4_partOfMean_17 : decode cX4_partOfMean 17 = .ok (.aload_n 0, 1) := by decide +kernel
theorem dX4_partOfMean_18 : decode cX4_partOfMean 18 = .ok (.getfield 12, 3) := by decide +kernel
theorem dX4_partOfMean_21 : decode cX4_partOfMean 21 = .ok (.iload_n 1, 1) := by decide +kernel
theorem dX4_partOfMean_22 : decode cX4_partOfMean 22 = .ok (.aload_n 0, 1) := by decide +kernel
theorem dX4_partOfMean_23 : decode cX4_partOfMean 23 = .ok (.getfield 12, 3) := by decide +kernel
theorem dX4_partOfMean_26 : decode cX4_partOfMean 26 = .ok (.iload_n 1, 1) := by decide +kernel
theorem dX4_partOfMean_27 : decode cX4_partOfMean 27 = .ok (.iload 5, 2) := by decide +kernel
theorem dX4_partOfMean_29 : decode cX4_partOfMean 29 = .ok (.invokevirtual 196, 3) := by decide +kernel
theorem dX4_partOfMean_32 : decode cX4_partOfMean 32 = .ok (.invokevirtual 113, 3) := by decide +kernel
theorem dX4_partOfMean_35 : decode cX4_partOfMean 35 = .ok (.i2l, 1) := by decide +kernel
theorem dX4_partOfMean_36 : decode cX4_partOfMean 36 = .ok (.lstore 6, 2) := by decide +kernel
theorem dX4_partOfMean_38 : decode cX4_partOfMean 38 = .ok (.lload_n 3, 1) := by decide +kernel
theorem dX4_partOfMean_39 : decode cX4_partOfMean 39 = .ok (.aload_n 0, 1) := by decide +kernel
theorem dX4_partOfMean_40 : decode cX4_partOfMean 40 = .ok (.getfield 21, 3) := by decide +kernel
theorem dX4_partOfMean_43 : decode cX4_partOfMean 43 = .ok (.iload 5, 2) := by decide +kernel
theorem dX4_partOfMean_45 : decode cX4_partOfMean 45 = .ok (.invokevirtual 96, 3) := by decide +kernel
theorem dX4_partOfMean_48 : decode cX4_partOfMean 48 = .ok (.i2l, 1) := by decide +kernel
theorem dX4_partOfMean_49 : decode cX4_partOfMean 49 = .ok (.lload 6, 2) := by decide +kernel
theorem dX4_partOfMean_51 : decode cX4_partOfMean 51 = .ok (.lmul, 1) := by decide +kernel
theorem dX4_partOfMean_52 : decode cX4_partOfMean 52 = .ok (.ladd, 1) := by decide +kernel
theorem dX4_partOfMean_53 : decode cX4_partOfMean 53 = .ok (.lstore_n 3, 1) := by decide +kernel
theorem dX4_partOfMean_54 : decode cX4_partOfMean 54 = .ok (.iinc 5 1, 3) := by decide +kernel
theorem dX4_partOfMean_57 : decode cX4_partOfMean 57 = .ok (.goto (-52), 3) := by decide +kernel
theorem dX4_partOfMean_60 : decode cX4_partOfMean 60 = .ok (.lload_n 3, 1) := by decide +kernel
theorem dX4_partOfMean_61 : decode cX4_partOfMean 61 = .ok (.aload_n 0, 1) := by decide +kernel
theorem dX4_partOfMean_62 : decode cX4_partOfMean 62 = .ok (.getfield 21, 3) := by decide +kernel
theorem dX4_partOfMean_65 : decode cX4_partOfMean 65 = .ok (.invokevirtual 170, 3) := by decide +kernel
theorem dX4_partOfMean_68 : decode cX4_partOfMean 68 = .ok (.iload_n 2, 1) := by decide +kernel
theorem dX4_partOfMean_69 : decode cX4_partOfMean 69 = .ok (.invokestatic 174, 3) := by decide +kernel
theorem dX4_partOfMean_72 : decode cX4_partOfMean 72 = .ok (.ireturn, 1) := by decide +kernel
set_option maxRecDepth 20000 in
theorem ggX4_partOfShare_X1_many : GoodIn wsX4_partOfShare wsX1_many := goodIn_r _ [7, 8, 56, 57, 58, 59, 60, 61, 62, 63] (by decide +kernel) (by decide +kernel)
set_option maxRecDepth 20000 in
theorem gX4_partOfShare_X1_many : GoodIn wsX4_partOfShare (wsV RX4 107 RX1 yX1_many wsX1_many) := goodIn_app (goodIn_of _ (by decide +kernel)) ggX4_partOfShare_X1_many
set_option maxRecDepth 20000 in
theorem ggX4_partOfShare_X1_ancestorIn : GoodIn wsX4_partOfShare wsX1_ancestorIn := goodIn_r _ [12, 13, 14, 15, 16, 6, 17, 18, 19, 20, 21, 22, 23, 24, 56, 57, 58, 59, 60, 61, 62, 63, 64] (by decide +kernel) (by decide +kernel)
set_option maxRecDepth 20000 in
theorem gX4_partOfShare_X1_ancestorIn : GoodIn wsX4_partOfShare (wsV RX4 196 RX1 yX1_ancestorIn wsX1_ancestorIn) := goodIn_app (goodIn_of _ (by decide +kernel)) ggX4_partOfShare_X1_ancestorIn
set_option maxRecDepth 20000 in
theorem ggX4_partOfShare_X1_placeIn : GoodIn wsX4_partOfShare wsX1_placeIn := goodIn_r _ [28, 29, 19, 20, 21, 22, 23, 24, 56, 57, 58, 59, 60, 61, 62, 63, 64] (by decide +kernel) (by decide +kernel)
set_option maxRecDepth 20000 in
theorem gX4_partOfShare_X1_placeIn : GoodIn wsX4_partOfShare (wsV RX4 113 RX1 yX1_placeIn wsX1_placeIn) := goodIn_app (goodIn_of _ (by decide +kernel)) ggX4_partOfShare_X1_placeIn
set_option maxRecDepth 20000 in
theorem ggX4_partOfShare_X6_isWithin : GoodIn wsX4_partOfShare wsX6_isWithin := goodIn_r _ [32] (by decide +kernel) (by decide +kernel)
set_option maxRecDepth 20000 in
theorem gX4_partOfShare_X6_isWithin_n74 : GoodIn wsX4_partOfShare (wsX6_isWithin) := ggX4_partOfShare_X6_isWithin
set_option maxRecDepth 20000 in
theorem ggX4_partOfShare_X5_weightOf : GoodIn wsX4_partOfShare wsX5_weightOf := goodIn_r _ [37, 38, 65, 66] (by decide +kernel) (by decide +kernel)
set_option maxRecDepth 20000 in
theorem gX4_partOfShare_X5_weightOf : GoodIn wsX4_partOfShare (wsV RX4 96 RX5 yX5_weightOf wsX5_weightOf) := goodIn_app (goodIn_of _ (by decide +kernel)) ggX4_partOfShare_X5_weightOf
set_option maxRecDepth 20000 in
theorem ggX4_partOfShare_X5_sum : GoodIn wsX4_partOfShare wsX5_sum := goodIn_r _ [42, 43, 38, 65, 66] (by decide +kernel) (by decide +kernel)
set_option maxRecDepth 20000 in
theorem gX4_partOfShare_X5_sum : GoodIn wsX4_partOfShare (wsV RX4 170 RX5 yX5_sum wsX5_sum) := goodIn_app (goodIn_of _ (by decide +kernel)) ggX4_partOfShare_X5_sum
set_option maxRecDepth 20000 in
theorem ggX4_partOfShare_X6_partInLowestTerms : GoodIn wsX4_partOfShare wsX6_partInLowestTerms := goodIn_r _ [45, 46, 47, 31, 48] (by decide +kernel) (by decide +kernel)
set_option maxRecDepth 20000 in
theorem gX4_partOfShare_X6_partInLowestTerms_n174 : GoodIn wsX4_partOfShare (wsX6_partInLowestTerms) := ggX4_partOfShare_X6_partInLowestTerms
theorem dX4_partOfShare_0 : decode cX4_partOfShare 0 = .ok (.lconst 0, 1) := by decide +kernel
theorem dX4_partOfShare_1 : decode cX4_partOfShare 1 = .ok (.lstore 5, 2) := by decide +kernel
theorem dX4_partOfShare_3 : decode cX4_partOfShare 3 = .ok (.iconst 0, 1) := by decide +kernel
theorem dX4_partOfShare_4 : decode cX4_partOfShare 4 = .ok (.istore 7, 2) := by decide +kernel
theorem dX4_partOfShare_6 : decode cX4_partOfShare 6 = .ok (.iload 7, 2) := by decide +kernel
theorem dX4_partOfShare_8 : decode cX4_partOfShare 8 = .ok (.aload_n 0, 1) := by decide +kernel
theorem dX4_partOfShare_9 : decode cX4_partOfShare 9 = .ok (.getfield 12, 3) := by decide +kernel
theorem dX4_partOfShare_12 : decode cX4_partOfShare 12 = .ok (.invokevirtual 107, 3) := by decide +kernel
theorem dX4_partOfShare_15 : decode cX4_partOfShare 15 = .ok (.if_icmp .ge 54, 3) := by decide +kernel
theorem dX4_partOfShare_18 : decode cX4_partOfShare 18 = .ok (.aload_n 0, 1) := by decide +kernel
theorem dX4_partOfShare_19 : decode cX4_partOfShare 19 = .ok (.getfield 12, 3) := by decide +kernel
theorem dX4_partOfShare_22 : decode cX4_partOfShare 22 = .ok (.iload_n 1, 1) := by decide +kernel
theorem dX4_partOfShare_23 : decode cX4_partOfShare 23 = .ok (.aload_n 0, 1) := by decide +kernel
theorem dX4_partOfShare_24 : decode cX4_partOfShare 24 = .ok (.getfield 12, 3) := by decide +kernel
theorem dX4_partOfShare_27 : decode cX4_partOfShare 27 = .ok (.iload_n 1, 1) := by decide +kernel
theorem dX4_partOfShare_28 : decode cX4_partOfShare 28 = .ok (.iload 7, 2) := by decide +kernel
theorem dX4_partOfShare_30 : decode cX4_partOfShare 30 = .ok (.invokevirtual 196, 3) := by decide +kernel
theorem dX4_partOfShare_33 : decode cX4_partOfShare 33 = .ok (.invokevirtual 113, 3) := by decide +kernel
theorem dX4_partOfShare_36 : decode cX4_partOfShare 36 = .ok (.istore 8, 2) := by decide +kernel
theorem dX4_partOfShare_38 : decode cX4_partOfShare 38 = .ok (.iload 8, 2) := by decide +kernel
theorem dX4_partOfShare_40 : decode cX4_partOfShare 40 = .ok (.iload_n 2, 1) := by decide +kernel
theorem dX4_partOfShare_41 : decode cX4_partOfShare 41 = .ok (.iload_n 3, 1) := by decide +kernel
theorem dX4_partOfShare_42 : decode cX4_partOfShare 42 = .ok (.invokestatic 74, 3) := by decide +kernel
theorem dX4_partOfShare_45 : decode cX4_partOfShare 45 = .ok (.ifCond .eq 18, 3) := by decide +kernel
theorem dX4_partOfShare_48 : decode cX4_partOfShare 48 = .ok (.lload 5, 2) := by decide +kernel
theorem dX4_partOfShare_50 : decode cX4_partOfShare 50 = .ok (.aload_n 0, 1) := by decide +kernel
theorem dX4_partOfShare_51 : decode cX4_partOfShare 51 = .ok (.getfield 21, 3) := by decide +kernel
theorem dX4_partOfShare_54 : decode cX4_partOfShare 54 = .ok (.iload 7, 2) := by decide +kernel
theorem dX4_partOfShare_56 : decode cX4_partOfShare 56 = .ok (.invokevirtual 96, 3) := by decide +kernel
theorem dX4_partOfShare_59 : decode cX4_partOfShare 59 = .ok (.i2l, 1) := by decide +kernel
theorem dX4_partOfShare_60 : decode cX4_partOfShare 60 = .ok (.ladd, 1) := by decide +kernel
theorem dX4_partOfShare_61 : decode cX4_partOfShare 61 = .ok (.lstore 5, 2) := by decide +kernel
theorem dX4_partOfShare_63 : decode cX4_partOfShare 63 = .ok (.iinc 7 1, 3) := by decide +kernel
theorem dX4_partOfShare_66 : decode cX4_partOfShare 66 = .ok (.goto (-60), 3) := by decide +kernel
theorem dX4_partOfShare_69 : decode cX4_partOfShare 69 = .ok (.lload 5, 2) := by decide +kernel
theorem dX4_partOfShare_71 : decode cX4_partOfShare 71 = .ok (.aload_n 0, 1) := by decide +kernel
theorem dX4_partOfShare_72 : decode cX4_partOfShare 72 = .ok (.getfield 21, 3) := by decide +kernel
theorem dX4_partOfShare_75 : decode cX4_partOfShare 75 = .ok (.invokevirtual 170, 3) := by decide +kernel
theorem dX4_partOfShare_78 : decode cX4_partOfShare 78 = .ok (.iload 4, 2) := by decide +kernel
theorem dX4_partOfShare_80 : decode cX4_partOfShare 80 = .ok (.invokestatic 174, 3) := by decide +kernel
theorem dX4_partOfShare_83 : decode cX4_partOfShare 83 = .ok (.ireturn, 1) := by decide +kernel
set_option maxRecDepth 20000 in
theorem ggX4_chosenBy_X2_at : GoodIn wsX4_chosenBy wsX2_at := goodIn_r _ [9, 10, 66] (by decide +kernel) (by decide +kernel)
set_option maxRecDepth 20000 in
theorem gX4_chosenBy_X2_at : GoodIn wsX4_chosenBy (wsV RX4 137 RX2 yX2_at wsX2_at) := goodIn_app (goodIn_of _ (by decide +kernel)) ggX4_chosenBy_X2_at
set_option maxRecDepth 20000 in
theorem ggX4_chosenBy_X0_choose : GoodIn wsX4_chosenBy wsX0_choose := goodIn_r _ [15, 16, 17, 18, 19, 14, 20, 21, 22, 23, 24, 25, 26, 27, 28, 29, 30, 31, 32, 33, 34, 35, 36, 37, 38, 39, 40, 41, 42, 43, 44, 45, 46, 47, 48, 49, 50, 51, 52, 53, 54, 67, 68, 69, 70, 71] (by decide +kernel) (by decide +kernel)
set_option maxRecDepth 20000 in
theorem gX4_chosenBy_X0_choose : GoodIn wsX4_chosenBy (wsV RX4 143 RX0 yX0_choose wsX0_choose) := goodIn_app (goodIn_of _ (by decide +kernel)) ggX4_chosenBy_X0_choose
set_option maxRecDepth 20000 in
theorem ggX4_chosenBy_X0_chosenFor : GoodIn wsX4_chosenBy wsX0_chosenFor := goodIn_r _ [58, 22, 67, 68, 69] (by decide +kernel) (by decide +kernel)
set_option maxRecDepth 20000 in
theorem gX4_chosenBy_X0_chosenFor : GoodIn wsX4_chosenBy (wsV RX4 152 RX0 yX0_chosenFor wsX0_chosenFor) := goodIn_app (goodIn_of _ (by decide +kernel)) ggX4_chosenBy_X0_chosenFor
theorem dX4_chosenBy_0 : decode cX4_chosenBy 0 = .ok (.aload_n 0, 1) := by decide +kernel
theorem dX4_chosenBy_1 : decode cX4_chosenBy 1 = .ok (.getfield 34, 3) := by decide +kernel
theorem dX4_chosenBy_4 : decode cX4_chosenBy 4 = .ok (.iload_n 1, 1) := by decide +kernel
theorem dX4_chosenBy_5 : decode cX4_chosenBy 5 = .ok (.aload_n 0, 1) := by decide +kernel
theorem dX4_chosenBy_6 : decode cX4_chosenBy 6 = .ok (.getfield 21, 3) := by decide +kernel
theorem dX4_chosenBy_9 : decode cX4_chosenBy 9 = .ok (.aload_n 0, 1) := by decide +kernel
theorem dX4_chosenBy_10 : decode cX4_chosenBy 10 = .ok (.getfield 30, 3) := by decide +kernel
theorem dX4_chosenBy_13 : decode cX4_chosenBy 13 = .ok (.iconst 2, 1) := by decide +kernel
theorem dX4_chosenBy_14 : decode cX4_chosenBy 14 = .ok (.invokevirtual 137, 3) := by decide +kernel
theorem dX4_chosenBy_17 : decode cX4_chosenBy 17 = .ok (.aload_n 0, 1) := by decide +kernel
theorem dX4_chosenBy_18 : decode cX4_chosenBy 18 = .ok (.getfield 58, 3) := by decide +kernel
theorem dX4_chosenBy_21 : decode cX4_chosenBy 21 = .ok (.invokevirtual 143, 3) := by decide +kernel
theorem dX4_chosenBy_24 : decode cX4_chosenBy 24 = .ok (.aload_n 0, 1) := by decide +kernel
theorem dX4_chosenBy_25 : decode cX4_chosenBy 25 = .ok (.getfield 34, 3) := by decide +kernel
theorem dX4_chosenBy_28 : decode cX4_chosenBy 28 = .ok (.iload_n 2, 1) := by decide +kernel
theorem dX4_chosenBy_29 : decode cX4_chosenBy 29 = .ok (.invokevirtual 152, 3) := by decide +kernel
theorem dX4_chosenBy_32 : decode cX4_chosenBy 32 = .ok (.ireturn, 1) := by decide +kernel
set_option maxRecDepth 20000 in
theorem ggX4_number_X1_many : GoodIn wsX4_number wsX1_many := goodIn_r _ [12, 13, 65, 66, 67, 68, 69, 70, 71, 72] (by decide +kernel) (by decide +kernel)
set_option maxRecDepth 20000 in
theorem gX4_number_X1_many : GoodIn wsX4_number (wsV RX4 107 RX1 yX1_many wsX1_many) := goodIn_app (goodIn_of _ (by decide +kernel)) ggX4_number_X1_many
set_option maxRecDepth 20000 in
theorem ggX4_number_X1_generations : GoodIn wsX4_number wsX1_generations := goodIn_r _ [17, 18, 65, 66, 67, 68, 69, 70, 71, 72] (by decide +kernel) (by decide +kernel)
set_option maxRecDepth 20000 in
theorem gX4_number_X1_generations : GoodIn wsX4_number (wsV RX4 79 RX1 yX1_generations wsX1_generations) := goodIn_app (goodIn_of _ (by decide +kernel)) ggX4_number_X1_generations
set_option maxRecDepth 20000 in
theorem ggX4_number_X5_sum : GoodIn wsX4_number wsX5_sum := goodIn_r _ [23, 24, 25, 73, 74] (by decide +kernel) (by decide +kernel)
set_option maxRecDepth 20000 in
theorem gX4_number_X5_sum : GoodIn wsX4_number (wsV RX4 170 RX5 yX5_sum wsX5_sum) := goodIn_app (goodIn_of _ (by decide +kernel)) ggX4_number_X5_sum
set_option maxRecDepth 20000 in
theorem ggX4_number_X5_effectiveCount : GoodIn wsX4_number wsX5_effectiveCount := goodIn_r _ [29, 24, 25, 73, 74] (by decide +kernel) (by decide +kernel)
set_option maxRecDepth 20000 in
theorem gX4_number_X5_effectiveCount : GoodIn wsX4_number (wsV RX4 134 RX5 yX5_effectiveCount wsX5_effectiveCount) := goodIn_app (goodIn_of _ (by decide +kernel)) ggX4_number_X5_effectiveCount
set_option maxRecDepth 20000 in
theorem ggX4_number_X5_howManyAreZero : GoodIn wsX4_number wsX5_howManyAreZero := goodIn_r _ [33, 24, 25, 73, 74] (by decide +kernel) (by decide +kernel)
set_option maxRecDepth 20000 in
theorem gX4_number_X5_howManyAreZero : GoodIn wsX4_number (wsV RX4 205 RX5 yX5_howManyAreZero wsX5_howManyAreZero) := goodIn_app (goodIn_of _ (by decide +kernel)) ggX4_number_X5_howManyAreZero
set_option maxRecDepth 20000 in
theorem ggX4_number_X1_latest : GoodIn wsX4_number wsX1_latest := goodIn_r _ [37, 18, 65, 66, 67, 68, 69, 70, 71, 72] (by decide +kernel) (by decide +kernel)
set_option maxRecDepth 20000 in
theorem gX4_number_X1_latest : GoodIn wsX4_number (wsV RX4 101 RX1 yX1_latest wsX1_latest) := goodIn_app (goodIn_of _ (by decide +kernel)) ggX4_number_X1_latest
set_option maxRecDepth 20000 in
theorem ggX4_number_X1_howManyUnlikePlaces : GoodIn wsX4_number wsX1_howManyUnlikePlaces := goodIn_r _ [41, 13, 42, 43, 44, 11, 45, 46, 47, 48, 49, 50, 51, 52, 53, 54, 55, 56, 65, 66, 67, 68, 69, 70, 71, 72, 75] (by decide +kernel) (by decide +kernel)
set_option maxRecDepth 20000 in
theorem gX4_number_X1_howManyUnlikePlaces : GoodIn wsX4_number (wsV RX4 193 RX1 yX1_howManyUnlikePlaces wsX1_howManyUnlikePlaces) := goodIn_app (goodIn_of _ (by decide +kernel)) ggX4_number_X1_howManyUnlikePlaces
set_option maxRecDepth 20000 in
theorem ggX4_number_X2_at : GoodIn wsX4_number wsX2_at := goodIn_r _ [55, 56, 75] (by decide +kernel) (by decide +kernel)
set_option maxRecDepth 20000 in
theorem gX4_number_X2_at : GoodIn wsX4_number (wsV RX4 137 RX2 yX2_at wsX2_at) := goodIn_app (goodIn_of _ (by decide +kernel)) ggX4_number_X2_at
theorem dX4_number_0 : decode cX4_number 0 = .ok (.iload_n 1, 1) := by decide +kernel
theorem dX4_number_1 : decode cX4_number 1 = .ok (.tableswitch 205 0 22 #[107, 115, 123, 132, 140, 145, 153, 168, 173, 205, 205, 205, 205, 205, 205, 205, 205, 205, 205, 205, 178, 187, 196], 107) := by decide +kernel
theorem dX4_number_108 : decode cX4_number 108 = .ok (.aload_n 0, 1) := by decide +kernel
theorem dX4_number_109 : decode cX4_number 109 = .ok (.getfield 12, 3) := by decide +kernel
theorem dX4_number_112 : decode cX4_number 112 = .ok (.invokevirtual 107, 3) := by decide +kernel
theorem dX4_number_115 : decode cX4_number 115 = .ok (.ireturn, 1) := by decide +kernel
theorem dX4_number_116 : decode cX4_number 116 = .ok (.aload_n 0, 1) := by decide +kernel
theorem dX4_number_117 : decode cX4_number 117 = .ok (.getfield 12, 3) := by decide +kernel
theorem dX4_number_120 : decode cX4_number 120 = .ok (.invokevirtual 79, 3) := by decide +kernel
theorem dX4_number_123 : decode cX4_number 123 = .ok (.ireturn, 1) := by decide +kernel
theorem dX4_number_124 : decode cX4_number 124 = .ok (.aload_n 0, 1) := by decide +kernel
theorem dX4_number_125 : decode cX4_number 125 = .ok (.getfield 21, 3) := by decide +kernel
theorem dX4_number_128 : decode cX4_number 128 = .ok (.invokevirtual 170, 3) := by decide +kernel
theorem dX4_number_131 : decode cX4_number 131 = .ok (.l2i, 1) := by decide +kernel
theorem dX4_number_132 : decode cX4_number 132 = .ok (.ireturn, 1) := by decide +kernel
theorem dX4_number_133 : decode cX4_number 133 = .ok (.aload_n 0, 1) := by decide +kernel
theorem dX4_number_134 : decode cX4_number 134 = .ok (.getfield 21, 3) := by decide +kernel
theorem dX4_number_137 : decode cX4_number 137 = .ok (.invokevirtual 134, 3) := by decide +kernel
theorem dX4_number_140 : decode cX4_number 140 = .ok (.ireturn, 1) := by decide +kernel
theorem dX4_number_141 : decode cX4_number 141 = .ok (.aload_n 0, 1) := by decide +kernel
theorem dX4_number_142 : decode cX4_number 142 = .ok (.getfield 58, 3) := by decide +kernel
theorem dX4_number_145 : decode cX4_number 145 = .ok (.ireturn, 1) := by decide +kernel
theorem dX4_number_146 : decode cX4_number 146 = .ok (.aload_n 0, 1) := by decide +kernel
theorem dX4_number_147 : decode cX4_number 147 = .ok (.getfield 21, 3) := by decide +kernel
theorem dX4_number_150 : decode cX4_number 150 = .ok (.invokevirtual 205, 3) := by decide +kernel
theorem dX4_number_153 : decode cX4_number 153 = .ok (.ireturn, 1) := by decide +kernel
theorem dX4_number_154 : decode cX4_number 154 = .ok (.aload_n 0, 1) := by decide +kernel
theorem dX4_number_155 : decode cX4_number 155 = .ok (.getfield 12, 3) := by decide +kernel
theorem dX4_number_158 : decode cX4_number 158 = .ok (.aload_n 0, 1) := by decide +kernel
theorem dX4_number_159 : decode cX4_number 159 = .ok (.getfield 12, 3) := by decide +kernel
theorem dX4_number_162 : decode cX4_number 162 = .ok (.invokevirtual 101, 3) := by decide +kernel
theorem dX4_number_165 : decode cX4_number 165 = .ok (.invokevirtual 193, 3) := by decide +kernel
theorem dX4_number_168 : decode cX4_number 168 = .ok (.ireturn, 1) := by decide +kernel
theorem dX4_number_169 : decode cX4_number 169 = .ok (.aload_n 0, 1) := by decide +kernel
theorem dX4_number_170 : decode cX4_number 170 = .ok (.getfield 62, 3) := by decide +kernel
theorem dX4_number_173 : decode cX4_number 173 = .ok (.ireturn, 1) := by decide +kernel
theorem dX4_number_174 : decode cX4_number 174 = .ok (.aload_n 0, 1) := by decide +kernel
theorem dX4_number_175 : decode cX4_number 175 = .ok (.getfield 65, 3) := by decide +kernel
theorem dX4_number_178 : decode cX4_number 178 = .ok (.ireturn, 1) := by decide +kernel
theorem dX4_number_179 : decode cX4_number 179 = .ok (.aload_n 0, 1) := by decide +kernel
theorem dX4_number_180 : decode cX4_number 180 = .ok (.getfield 30, 3) := by decide +kernel
theorem dX4_number_183 : decode cX4_number 183 = .ok (.iconst 0, 1) := by decide +kernel
theorem dX4_number_184 : decode cX4_number 184 = .ok (.invokevirtual 137, 3) := by decide +kernel
theorem dX4_number_187 : decode cX4_number 187 = .ok (.ireturn, 1) := by decide +kernel
theorem dX4_number_188 : decode cX4_number 188 = .ok (.aload_n 0, 1) := by decide +kernel
theorem dX4_number_189 : decode cX4_number 189 = .ok (.getfield 30, 3) := by decide +kernel
theorem dX4_number_192 : decode cX4_number 192 = .ok (.iconst 1, 1) := by decide +kernel
theorem dX4_number_193 : decode cX4_number 193 = .ok (.invokevirtual 137, 3) := by decide +kernel
theorem dX4_number_196 : decode cX4_number 196 = .ok (.ireturn, 1) := by decide +kernel
theorem dX4_number_197 : decode cX4_number 197 = .ok (.aload_n 0, 1) := by decide +kernel
theorem dX4_number_198 : decode cX4_number 198 = .ok (.getfield 30, 3) := by decide +kernel
theorem dX4_number_201 : decode cX4_number 201 = .ok (.iconst 2, 1) := by decide +kernel
theorem dX4_number_202 : decode cX4_number 202 = .ok (.invokevirtual 137, 3) := by decide +kernel
theorem dX4_number_205 : decode cX4_number 205 = .ok (.ireturn, 1) := by decide +kernel
theorem dX4_number_206 : decode cX4_number 206 = .ok (.ldc 78, 2) := by decide +kernel
theorem dX4_number_208 : decode cX4_number 208 = .ok (.ireturn, 1) := by decide +kernel
theorem dX5_init_0 : decode cX5_init 0 = .ok (.aload_n 0, 1) := by decide +kernel
theorem dX5_init_1 : decode cX5_init 1 = .ok (.invokespecial 3, 3) := by decide +kernel
theorem dX5_init_4 : decode cX5_init 4 = .ok (.aload_n 0, 1) := by decide +kernel
theorem dX5_init_5 : decode cX5_init 5 = .ok (.bipush 12, 2) := by decide +kernel
theorem dX5_init_7 : decode cX5_init 7 = .ok (.newarray .int, 2) := by decide +kernel
theorem dX5_init_9 : decode cX5_init 9 = .ok (.putfield 9, 3) := by decide +kernel
theorem dX5_init_12 : decode cX5_init 12 = .ok (.aload_n 0, 1) := by decide +kernel
theorem dX5_init_13 : decode cX5_init 13 = .ok (.iconst 0, 1) := by decide +kernel
theorem dX5_init_14 : decode cX5_init 14 = .ok (.putfield 15, 3) := by decide +kernel
theorem dX5_init_17 : decode cX5_init 17 = .ok (.return_, 1) := by decide +kernel
theorem dX5_copyWeights_0 : decode cX5_copyWeights 0 = .ok (.aload_n 0, 1) := by decide +kernel
theorem dX5_copyWeights_1 : decode cX5_copyWeights 1 = .ok (.aload_n 1, 1) := by decide +kernel
theorem dX5_copyWeights_2 : decode cX5_copyWeights 2 = .ok (.getfield 15, 3) := by decide +kernel
theorem dX5_copyWeights_5 : decode cX5_copyWeights 5 = .ok (.putfield 15, 3) := by decide +kernel
theorem dX5_copyWeights_8 : decode cX5_copyWeights 8 = .ok (.iconst 0, 1) := by decide +kernel
theorem dX5_copyWeights_9 : decode cX5_copyWeights 9 = .ok (.istore_n 2, 1) := by decide +kernel
theorem dX5_copyWeights_10 : decode cX5_copyWeights 10 = .ok (.iload_n 2, 1) := by decide +kernel
theorem dX5_copyWeights_11 : decode cX5_copyWeights 11 = .ok (.aload_n 0, 1) := by decide +kernel
theorem dX5_copyWeights_12 : decode cX5_copyWeights 12 = .ok (.getfield 9, 3) := by decide +kernel
theorem dX5_copyWeights_15 : decode cX5_copyWeights 15 = .ok (.arraylength, 1) := by decide +kernel
theorem dX5_copyWeights_16 : decode cX5_copyWeights 16 = .ok (.if_icmp .ge 30, 3) := by decide +kernel
theorem dX5_copyWeights_19 : decode cX5_copyWeights 19 = .ok (.iload_n 2, 1) := by decide +kernel
theorem dX5_copyWeights_20 : decode cX5_copyWeights 20 = .ok (.aload_n 1, 1) := by decide +kernel
theorem dX5_copyWeights_21 : decode cX5_copyWeights 21 = .ok (.getfield 9, 3) := by decide +kernel
theorem dX5_copyWeights_24 : decode cX5_copyWeights 24 = .ok (.arraylength, 1) := by decide +kernel
theorem dX5_copyWeights_25 : decode cX5_copyWeights 25 = .ok (.if_icmp .ge 21, 3) := by decide +kernel
theorem dX5_copyWeights_28 : decode cX5_copyWeights 28 = .ok (.aload_n 0, 1) := by decide +kernel
theorem dX5_copyWeights_29 : decode cX5_copyWeights 29 = .ok (.getfield 9, 3) := by decide +kernel
theorem dX5_copyWeights_32 : decode cX5_copyWeights 32 = .ok (.iload_n 2, 1) := by decide +kernel
theorem dX5_copyWeights_33 : decode cX5_copyWeights 33 = .ok (.aload_n 1, 1) := by decide +kernel
theorem dX5_copyWeights_34 : decode cX5_copyWeights 34 = .ok (.getfield 9, 3) := by decide +kernel
theorem dX5_copyWeights_37 : decode cX5_copyWeights 37 = .ok (.iload_n 2, 1) := by decide +kernel
theorem dX5_copyWeights_38 : decode cX5_copyWeights 38 = .ok (.iaload, 1) := by decide +kernel
theorem dX5_copyWeights_39 : decode cX5_copyWeights 39 = .ok (.iastore, 1) := by decide +kernel
theorem dX5_copyWeights_40 : decode cX5_copyWeights 40 = .ok (.iinc 2 1, 3) := by decide +kernel
theorem dX5_copyWeights_43 : decode cX5_copyWeights 43 = .ok (.goto (-33), 3) := by decide +kernel
theorem dX5_copyWeights_46 : decode cX5_copyWeights 46 = .ok (.return_, 1) := by decide +kernel
theorem dX5_makeEqual_0 : decode cX5_makeEqual 0 = .ok (.aload_n 0, 1) := by decide +kernel
theorem dX5_makeEqual_1 : decode cX5_makeEqual 1 = .ok (.iconst 0, 1) := by decide +kernel
theorem dX5_makeEqual_2 : decode cX5_makeEqual 2 = .ok (.iload_n 1, 1) := by decide +kernel
theorem dX5_makeEqual_3 : decode cX5_makeEqual 3 = .ok (.aload_n 0, 1) := by decide +kernel
theorem dX5_makeEqual_4 : decode cX5_makeEqual 4 = .ok (.getfield 9, 3) := by decide +kernel
theorem dX5_makeEqual_7 : decode cX5_makeEqual 7 = .ok (.arraylength, 1) := by decide +kernel
theorem dX5_makeEqual_8 : decode cX5_makeEqual 8 = .ok (.invokestatic 19, 3) := by decide +kernel
theorem dX5_makeEqual_11 : decode cX5_makeEqual 11 = .ok (.invokestatic 25, 3) := by decide +kernel
theorem dX5_makeEqual_14 : decode cX5_makeEqual 14 = .ok (.putfield 15, 3) := by decide +kernel
theorem dX5_makeEqual_17 : decode cX5_makeEqual 17 = .ok (.iconst 0, 1) := by decide +kernel
theorem dX5_makeEqual_18 : decode cX5_makeEqual 18 = .ok (.istore_n 2, 1) := by decide +kernel
theorem dX5_makeEqual_19 : decode cX5_makeEqual 19 = .ok (.iload_n 2, 1) := by decide +kernel
theorem dX5_makeEqual_20 : decode cX5_makeEqual 20 = .ok (.aload_n 0, 1) := by decide +kernel
theorem dX5_makeEqual_21 : decode cX5_makeEqual 21 = .ok (.getfield 15, 3) := by decide +kernel
theorem dX5_makeEqual_24 : decode cX5_makeEqual 24 = .ok (.if_icmp .ge 25, 3) := by decide +kernel
theorem dX5_makeEqual_27 : decode cX5_makeEqual 27 = .ok (.iload_n 2, 1) := by decide +kernel
theorem dX5_makeEqual_28 : decode cX5_makeEqual 28 = .ok (.aload_n 0, 1) := by decide +kernel
theorem dX5_makeEqual_29 : decode cX5_makeEqual 29 = .ok (.getfield 9, 3) := by decide +kernel
theorem dX5_makeEqual_32 : decode cX5_makeEqual 32 = .ok (.arraylength, 1) := by decide +kernel
theorem dX5_makeEqual_33 : decode cX5_makeEqual 33 = .ok (.if_icmp .ge 16, 3) := by decide +kernel
theorem dX5_makeEqual_36 : decode cX5_makeEqual 36 = .ok (.aload_n 0, 1) := by decide +kernel
theorem dX5_makeEqual_37 : decode cX5_makeEqual 37 = .ok (.getfield 9, 3) := by decide +kernel
theorem dX5_makeEqual_40 : decode cX5_makeEqual 40 = .ok (.iload_n 2, 1) := by decide +kernel
theorem dX5_makeEqual_41 : decode cX5_makeEqual 41 = .ok (.iconst 1, 1) := by decide +kernel
theorem dX5_makeEqual_42 : decode cX5_makeEqual 42 = .ok (.iastore, 1) := by decide +kernel
theorem dX5_makeEqual_43 : decode cX5_makeEqual 43 = .ok (.iinc 2 1, 3) := by decide +kernel
theorem dX5_makeEqual_46 : decode cX5_makeEqual 46 = .ok (.goto (-27), 3) := by decide +kernel
theorem dX5_makeEqual_49 : decode cX5_makeEqual 49 = .ok (.return_, 1) := by decide +kernel
theorem dX5_weightOf_0 : decode cX5_weightOf 0 = .ok (.iload_n 1, 1) := by decide +kernel
theorem dX5_weightOf_1 : decode cX5_weightOf 1 = .ok (.ifCond .lt 12, 3) := by decide +kernel
theorem dX5_weightOf_4 : decode cX5_weightOf 4 = .ok (.iload_n 1, 1) := by decide +kernel
theorem dX5_weightOf_5 : decode cX5_weightOf 5 = .ok (.aload_n 0, 1) := by decide +kernel
theorem dX5_weightOf_6 : decode cX5_weightOf 6 = .ok (.getfield 9, 3) := by decide +kernel
theorem dX5_weightOf_9 : decode cX5_weightOf 9 = .ok (.arraylength, 1) := by decide +kernel
theorem dX5_weightOf_10 : decode cX5_weightOf 10 = .ok (.if_icmp .lt 5, 3) := by decide +kernel
theorem dX5_weightOf_13 : decode cX5_weightOf 13 = .ok (.iconst 0, 1) := by decide +kernel
theorem dX5_weightOf_14 : decode cX5_weightOf 14 = .ok (.ireturn, 1) := by decide +kernel
theorem dX5_weightOf_15 : decode cX5_weightOf 15 = .ok (.aload_n 0, 1) := by decide +kernel
theorem dX5_weightOf_16 : decode cX5_weightOf 16 = .ok (.getfield 9, 3) := by decide +kernel
theorem dX5_weightOf_19 : decode cX5_weightOf 19 = .ok (.iload_n 1, 1) := by decide +kernel
theorem dX5_weightOf_20 : decode cX5_weightOf 20 = .ok (.iaload, 1) := by decide +kernel
theorem dX5_weightOf_21 : decode cX5_weightOf 21 = .ok (.ireturn, 1) := by decide +kernel
theorem dX5_putWeight_0 : decode cX5_putWeight 0 = .ok (.iload_n 1, 1) := by decide +kernel
theorem dX5_putWeight_1 : decode cX5_putWeight 1 = .ok (.ifCond .lt 19, 3) := by decide +kernel
theorem dX5_putWeight_4 : decode cX5_putWeight 4 = .ok (.iload_n 1, 1) := by decide +kernel
theorem dX5_putWeight_5 : decode cX5_putWeight 5 = .ok (.aload_n 0, 1) := by decide +kernel
theorem dX5_putWeight_6 : decode cX5_putWeight 6 = .ok (.getfield 9, 3) := by decide +kernel
theorem dX5_putWeight_9 : decode cX5_putWeight 9 = .ok (.arraylength, 1) := by decide +kernel
theorem dX5_putWeight_10 : decode cX5_putWeight 10 = .ok (.if_icmp .ge 10, 3) := by decide +kernel
theorem dX5_putWeight_13 : decode cX5_putWeight 13 = .ok (.aload_n 0, 1) := by decide +kernel
theorem dX5_putWeight_14 : decode cX5_putWeight 14 = .ok (.getfield 9, 3) := by decide +kernel
theorem dX5_putWeight_17 : decode cX5_putWeight 17 = .ok (.iload_n 1, 1) := by decide +kernel
theorem dX5_putWeight_18 : decode cX5_putWeight 18 = .ok (.iload_n 2, 1) := by decide +kernel
theorem dX5_putWeight_19 : decode cX5_putWeight 19 = .ok (.iastore, 1) := by decide +kernel
theorem dX5_putWeight_20 : decode cX5_putWeight 20 = .ok (.return_, 1) := by decide +kernel
set_option maxRecDepth 20000 in
theorem ggX5_reduce_X6_commonDivisor : GoodIn wsX5_reduce wsX6_commonDivisor := goodIn_r _ [5] (by decide +kernel) (by decide +kernel)
set_option maxRecDepth 20000 in
theorem gX5_reduce_X6_commonDivisor_n28 : GoodIn wsX5_reduce (wsX6_commonDivisor) := ggX5_reduce_X6_commonDivisor
theorem dX5_reduce_0 : decode cX5_reduce 0 = .ok (.lconst 0, 1) := by decide +kernel
theorem dX5_reduce_1 : decode cX5_reduce 1 = .ok (.lstore_n 1, 1) := by decide +kernel
theorem dX5_reduce_2 : decode cX5_reduce 2 = .ok (.iconst 0, 1) := by decide +kernel
theorem dX5_reduce_3 : decode cX5_reduce 3 = .ok (.istore_n 3, 1) := by decide +kernel
theorem dX5_reduce_4 : decode cX5_reduce 4 = .ok (.iload_n 3, 1) := by decide +kernel
theorem dX5_reduce_5 : decode cX5_reduce 5 = .ok (.aload_n 0, 1) := by decide +kernel
theorem dX5_reduce_6 : decode cX5_reduce 6 = .ok (.getfield 15, 3) := by decide +kernel
theorem dX5_reduce_9 : decode cX5_reduce 9 = .ok (.if_icmp .ge 30, 3) := by decide +kernel
theorem dX5_reduce_12 : decode cX5_reduce 12 = .ok (.iload_n 3, 1) := by decide +kernel
theorem dX5_reduce_13 : decode cX5_reduce 13 = .ok (.aload_n 0, 1) := by decide +kernel
theorem dX5_reduce_14 : decode cX5_reduce 14 = .ok (.getfield 9, 3) := by decide +kernel
theorem dX5_reduce_17 : decode cX5_reduce 17 = .ok (.arraylength, 1) := by decide +kernel
theorem dX5_reduce_18 : decode cX5_reduce 18 = .ok (.if_icmp .ge 21, 3) := by decide +kernel
theorem dX5_reduce_21 : decode cX5_reduce 21 = .ok (.lload_n 1, 1) := by decide +kernel
theorem dX5_reduce_22 : decode cX5_reduce 22 = .ok (.aload_n 0, 1) := by decide +kernel
theorem dX5_reduce_23 : decode cX5_reduce 23 = .ok (.getfield 9, 3) := by decide +kernel
theorem dX5_reduce_26 : decode cX5_reduce 26 = .ok (.iload_n 3, 1) := by decide +kernel
theorem dX5_reduce_27 : decode cX5_reduce 27 = .ok (.iaload, 1) := by decide +kernel
theorem dX5_reduce_28 : decode cX5_reduce 28 = .ok (.i2l, 1) := by decide +kernel
theorem dX5_reduce_29 : decode cX5_reduce 29 = .ok (.invokestatic 28, 3) := by decide +kernel
theorem dX5_reduce_32 : decode cX5_reduce 32 = .ok (.lstore_n 1, 1) := by decide +kernel
theorem dX5_reduce_33 : decode cX5_reduce 33 = .ok (.iinc 3 1, 3) := by decide +kernel
theorem dX5_reduce_36 : decode cX5_reduce 36 = .ok (.goto (-32), 3) := by decide +kernel
theorem dX5_reduce_39 : decode cX5_reduce 39 = .ok (.lload_n 1, 1) := by decide +kernel
theorem dX5_reduce_40 : decode cX5_reduce 40 = .ok (.lconst 0, 1) := by decide +kernel
theorem dX5_reduce_41 : decode cX5_reduce 41 = .ok (.lcmp, 1) := by decide +kernel
theorem dX5_reduce_42 : decode cX5_reduce 42 = .ok (.ifCond .gt 5, 3) := by decide +kernel
theorem dX5_reduce_45 : decode cX5_reduce 45 = .ok (.iconst 0, 1) := by decide +kernel
theorem dX5_reduce_46 : decode cX5_reduce 46 = .ok (.ireturn, 1) := by decide +kernel
theorem dX5_reduce_47 : decode cX5_reduce 47 = .ok (.iconst 0, 1) := by decide +kernel
theorem dX5_reduce_48 : decode cX5_reduce 48 = .ok (.istore_n 3, 1) := by decide +kernel
theorem dX5_reduce_49 : decode cX5_reduce 49 = .ok (.iload_n 3, 1) := by decide +kernel
theorem dX5_reduce_50 : decode cX5_reduce 50 = .ok (.aload_n 0, 1) := by decide +kernel
theorem dX5_reduce_51 : decode cX5_reduce 51 = .ok (.getfield 15, 3) := by decide +kernel
theorem dX5_reduce_54 : decode cX5_reduce 54 = .ok (.if_icmp .ge 34, 3) := by decide +kernel
theorem dX5_reduce_57 : decode cX5_reduce 57 = .ok (.iload_n 3, 1) := by decide +kernel
theorem dX5_reduce_58 : decode cX5_reduce 58 = .ok (.aload_n 0, 1) := by decide +kernel
theorem dX5_reduce_59 : decode cX5_reduce 59 = .ok (.getfield 9, 3) := by decide +kernel
theorem dX5_reduce_62 : decode cX5_reduce 62 = .ok (.arraylength, 1) := by decide +kernel
theorem dX5_reduce_63 : decode cX5_reduce 63 = .ok (.if_icmp .ge 25, 3) := by decide +kernel
theorem dX5_reduce_66 : decode cX5_reduce 66 = .ok (.aload_n 0, 1) := by decide +kernel
theorem dX5_reduce_67 : decode cX5_reduce 67 = .ok (.getfield 9, 3) := by decide +kernel
theorem dX5_reduce_70 : decode cX5_reduce 70 = .ok (.iload_n 3, 1) := by decide +kernel
theorem dX5_reduce_71 : decode cX5_reduce 71 = .ok (.aload_n 0, 1) := by decide +kernel
theorem dX5_reduce_72 : decode cX5_reduce 72 = .ok (.getfield 9, 3) := by decide +kernel
theorem dX5_reduce_75 : decode cX5_reduce 75 = .ok (.iload_n 3, 1) := by decide +kernel
theorem dX5_reduce_76 : decode cX5_reduce 76 = .ok (.iaload, 1) := by decide +kernel
theorem dX5_reduce_77 : decode cX5_reduce 77 = .ok (.i2l, 1) := by decide +kernel
theorem dX5_reduce_78 : decode cX5_reduce 78 = .ok (.lload_n 1, 1) := by decide +kernel
theorem dX5_reduce_79 : decode cX5_reduce 79 = .ok (.ldiv, 1) := by decide +kernel
theorem dX5_reduce_80 : decode cX5_reduce 80 = .ok (.l2i, 1) := by decide +kernel
theorem dX5_reduce_81 : decode cX5_reduce 81 = .ok (.iastore, 1) := by decide +kernel
theorem dX5_reduce_82 : decode cX5_reduce 82 = .ok (.iinc 3 1, 3) := by decide +kernel
theorem dX5_reduce_85 : decode cX5_reduce 85 = .ok (.goto (-36), 3) := by decide +kernel
theorem dX5_reduce_88 : decode cX5_reduce 88 = .ok (.iconst 1, 1) := by decide +kernel
theorem dX5_reduce_89 : decode cX5_reduce 89 = .ok (.ireturn, 1) := by decide +kernel
theorem dX5_greatest_0 : decode cX5_greatest 0 = .ok (.iconst 0, 1) := by decide +kernel
theorem dX5_greatest_1 : decode cX5_greatest 1 = .ok (.istore_n 1, 1) := by decide +kernel
theorem dX5_greatest_2 : decode cX5_greatest 2 = .ok (.iconst 0, 1) := by decide +kernel
theorem dX5_greatest_3 : decode cX5_greatest 3 = .ok (.istore_n 2, 1) := by decide +kernel
theorem dX5_greatest_4 : decode cX5_greatest 4 = .ok (.iload_n 2, 1) := by decide +kernel
theorem dX5_greatest_5 : decode cX5_greatest 5 = .ok (.aload_n 0, 1) := by decide +kernel
theorem dX5_greatest_6 : decode cX5_greatest 6 = .ok (.getfield 15, 3) := by decide +kernel
theorem dX5_greatest_9 : decode cX5_greatest 9 = .ok (.if_icmp .ge 29, 3) := by decide +kernel
theorem dX5_greatest_12 : decode cX5_greatest 12 = .ok (.iload_n 2, 1) := by decide +kernel
theorem dX5_greatest_13 : decode cX5_greatest 13 = .ok (.aload_n 0, 1) := by decide +kernel
theorem dX5_greatest_14 : decode cX5_greatest 14 = .ok (.getfield 9, 3) := by decide +kernel
theorem dX5_greatest_17 : decode cX5_greatest 17 = .ok (.arraylength, 1) := by decide +kernel
theorem dX5_greatest_18 : decode cX5_greatest 18 = .ok (.if_icmp .ge 20, 3) := by decide +kernel
theorem dX5_greatest_21 : decode cX5_greatest 21 = .ok (.iload_n 1, 1) := by decide +kernel
theorem dX5_greatest_22 : decode cX5_greatest 22 = .ok (.aload_n 0, 1) := by decide +kernel
theorem dX5_greatest_23 : decode cX5_greatest 23 = .ok (.getfield 9, 3) := by decide +kernel
theorem dX5_greatest_26 : decode cX5_greatest 26 = .ok (.iload_n 2, 1) := by decide +kernel
theorem dX5_greatest_27 : decode cX5_greatest 27 = .ok (.iaload, 1) := by decide +kernel
theorem dX5_greatest_28 : decode cX5_greatest 28 = .ok (.invokestatic 25, 3) := by decide +kernel
theorem dX5_greatest_31 : decode cX5_greatest 31 = .ok (.istore_n 1, 1) := by decide +kernel
theorem dX5_greatest_32 : decode cX5_greatest 32 = .ok (.iinc 2 1, 3) := by decide +kernel
theorem dX5_greatest_35 : decode cX5_greatest 35 = .ok (.goto (-31), 3) := by decide +kernel
theorem dX5_greatest_38 : decode cX5_greatest 38 = .ok (.iload_n 1, 1) := by decide +kernel
theorem dX5_greatest_39 : decode cX5_greatest 39 = .ok (.ireturn, 1) := by decide +kernel
theorem dX5_sum_0 : decode cX5_sum 0 = .ok (.lconst 0, 1) := by decide +kernel
theorem dX5_sum_1 : decode cX5_sum 1 = .ok (.lstore_n 1, 1) := by decide +kernel
theorem dX5_sum_2 : decode cX5_sum 2 = .ok (.iconst 0, 1) := by decide +kernel
theorem dX5_sum_3 : decode cX5_sum 3 = .ok (.istore_n 3, 1) := by decide +kernel
theorem dX5_sum_4 : decode cX5_sum 4 = .ok (.iload_n 3, 1) := by decide +kernel
theorem dX5_sum_5 : decode cX5_sum 5 = .ok (.aload_n 0, 1) := by decide +kernel
theorem dX5_sum_6 : decode cX5_sum 6 = .ok (.getfield 15, 3) := by decide +kernel
theorem dX5_sum_9 : decode cX5_sum 9 = .ok (.if_icmp .ge 28, 3) := by decide +kernel
theorem dX5_sum_12 : decode cX5_sum 12 = .ok (.iload_n 3, 1) := by decide +kernel
theorem dX5_sum_13 : decode cX5_sum 13 = .ok (.aload_n 0, 1) := by decide +kernel
theorem dX5_sum_14 : decode cX5_sum 14 = .ok (.getfield 9, 3) := by decide +kernel
theorem dX5_sum_17 : decode cX5_sum 17 = .ok (.arraylength, 1) := by decide +kernel
theorem dX5_sum_18 : decode cX5_sum 18 = .ok (.if_icmp .ge 19, 3) := by decide +kernel
theorem dX5_sum_21 : decode cX5_sum 21 = .ok (.lload_n 1, 1) := by decide +kernel
theorem dX5_sum_22 : decode cX5_sum 22 = .ok (.aload_n 0, 1) := by decide +kernel
theorem dX5_sum_23 : decode cX5_sum 23 = .ok (.getfield 9, 3) := by decide +kernel
theorem dX5_sum_26 : decode cX5_sum 26 = .ok (.iload_n 3, 1) := by decide +kernel
theorem dX5_sum_27 : decode cX5_sum 27 = .ok (.iaload, 1) := by decide +kernel
theorem dX5_sum_28 : decode cX5_sum 28 = .ok (.i2l, 1) := by decide +kernel
theorem dX5_sum_29 : decode cX5_sum 29 = .ok (.ladd, 1) := by decide +kernel
theorem dX5_sum_30 : decode cX5_sum 30 = .ok (.lstore_n 1, 1) := by decide +kernel
theorem dX5_sum_31 : decode cX5_sum 31 = .ok (.iinc 3 1, 3) := by decide +kernel
theorem dX5_sum_34 : decode cX5_sum 34 = .ok (.goto (-30), 3) := by decide +kernel
theorem dX5_sum_37 : decode cX5_sum 37 = .ok (.lload_n 1, 1) := by decide +kernel
theorem dX5_sum_38 : decode cX5_sum 38 = .ok (.lreturn, 1) := by decide +kernel
theorem dX5_effectiveCount_0 : decode cX5_effectiveCount 0 = .ok (.lconst 0, 1) := by decide +kernel
theorem dX5_effectiveCount_1 : decode cX5_effectiveCount 1 = .ok (.lstore_n 1, 1) := by decide +kernel
theorem dX5_effectiveCount_2 : decode cX5_effectiveCount 2 = .ok (.lconst 0, 1) := by decide +kernel
theorem dX5_effectiveCount_3 : decode cX5_effectiveCount 3 = .ok (.lstore_n 3, 1) := by decide +kernel
theorem dX5_effectiveCount_4 : decode cX5_effectiveCount 4 = .ok (.iconst 0, 1) := by decide +kernel
theorem dX5_effectiveCount_5 : decode cX5_effectiveCount 5 = .ok (.istore 5, 2) := by decide +kernel
theorem dX5_effectiveCount_7 : decode cX5_effectiveCount 7 = .ok (.iload 5, 2) := by decide +kernel
theorem dX5_effectiveCount_9 : decode cX5_effectiveCount 9 = .ok (.aload_n 0, 1) := by decide +kernel
theorem dX5_effectiveCount_10 : decode cX5_effectiveCount 10 = .ok (.getfield 15, 3) := by decide +kernel
theorem dX5_effectiveCount_13 : decode cX5_effectiveCount 13 = .ok (.if_icmp .ge 42, 3) := by decide +kernel
theorem dX5_effectiveCount_16 : decode cX5_effectiveCount 16 = .ok (.iload 5, 2) := by decide +kernel
theorem dX5_effectiveCount_18 : decode cX5_effectiveCount 18 = .ok (.aload_n 0, 1) := by decide +kernel
theorem dX5_effectiveCount_19 : decode cX5_effectiveCount 19 = .ok (.getfield 9, 3) := by decide +kernel
theorem dX5_effectiveCount_22 : decode cX5_effectiveCount 22 = .ok (.arraylength, 1) := by decide +kernel
theorem dX5_effectiveCount_23 : decode cX5_effectiveCount 23 = .ok (.if_icmp .ge 32, 3) := by decide +kernel
theorem dX5_effectiveCount_26 : decode cX5_effectiveCount 26 = .ok (.aload_n 0, 1) := by decide +kernel
theorem dX5_effectiveCount_27 : decode cX5_effectiveCount 27 = .ok (.getfield 9, 3) := by decide +kernel
theorem dX5_effectiveCount_30 : decode cX5_effectiveCount 30 = .ok (.iload 5, 2) := by decide +kernel
theorem dX5_effectiveCount_32 : decode cX5_effectiveCount 32 = .ok (.iaload, 1) := by decide +kernel
theorem dX5_effectiveCount_33 : decode cX5_effectiveCount 33 = .ok (.i2l, 1) := by decide +kernel
theorem dX5_effectiveCount_34 : decode cX5_effectiveCount 34 = .ok (.lstore 6, 2) := by decide +kernel
theorem dX5_effectiveCount_36 : decode cX5_effectiveCount 36 = .ok (.lload_n 1, 1) := by decide +kernel
theorem dX5_effectiveCount_37 : decode cX5_effectiveCount 37 = .ok (.lload 6, 2) := by decide +kernel
theorem dX5_effectiveCount_39 : decode cX5_effectiveCount 39 = .ok (.ladd, 1) := by decide +kernel
theorem dX5_effectiveCount_40 : decode cX5_effectiveCount 40 = .ok (.lstore_n 1, 1) := by decide +kernel
theorem dX5_effectiveCount_41 : decode cX5_effectiveCount 41 = .ok (.lload_n 3, 1) := by decide +kernel
theorem dX5_effectiveCount_42 : decode cX5_effectiveCount 42 = .ok (.lload 6, 2) := by decide +kernel
theorem dX5_effectiveCount_44 : decode cX5_effectiveCount 44 = .ok (.lload 6, 2) := by decide +kernel
theorem dX5_effectiveCount_46 : decode cX5_effectiveCount 46 = .ok (.lmul, 1) := by decide +kernel
theorem dX5_effectiveCount_47 : decode cX5_effectiveCount 47 = .ok (.ladd, 1) := by decide +kernel
theorem dX5_effectiveCount_48 : decode cX5_effectiveCount 48 = .ok (.lstore_n 3, 1) := by decide +kernel
theorem dX5_effectiveCount_49 : decode cX5_effectiveCount 49 = .ok (.iinc 5 1, 3) := by decide +kernel
theorem dX5_effectiveCount_52 : decode cX5_effectiveCount 52 = .ok (.goto (-45), 3) := by decide +kernel
theorem dX5_effectiveCount_55 : decode cX5_effectiveCount 55 = .ok (.lload_n 3, 1) := by decide +kernel
theorem dX5_effectiveCount_56 : decode cX5_effectiveCount 56 = .ok (.lconst 0, 1) := by decide +kernel
theorem dX5_effectiveCount_57 : decode cX5_effectiveCount 57 = .ok (.lcmp, 1) := by decide +kernel
theorem dX5_effectiveCount_58 : decode cX5_effectiveCount 58 = .ok (.ifCond .gt 5, 3) := by decide +kernel
theorem dX5_effectiveCount_61 : decode cX5_effectiveCount 61 = .ok (.iconst 0, 1) := by decide +kernel
theorem dX5_effectiveCount_62 : decode cX5_effectiveCount 62 = .ok (.ireturn, 1) := by decide +kernel
theorem dX5_effectiveCount_63 : decode cX5_effectiveCount 63 = .ok (.lload_n 1, 1) := by decide +kernel
theorem dX5_effectiveCount_64 : decode cX5_effectiveCount 64 = .ok (.lload_n 1, 1) := by decide +kernel
theorem dX5_effectiveCount_65 : decode cX5_effectiveCount 65 = .ok (.lmul, 1) := by decide +kernel
theorem dX5_effectiveCount_66 : decode cX5_effectiveCount 66 = .ok (.lload_n 3, 1) := by decide +kernel
theorem dX5_effectiveCount_67 : decode cX5_effectiveCount 67 = .ok (.ldiv, 1) := by decide +kernel
theorem dX5_effectiveCount_68 : decode cX5_effectiveCount 68 = .ok (.l2i, 1) := by decide +kernel
theorem dX5_effectiveCount_69 : decode cX5_effectiveCount 69 = .ok (.ireturn, 1) := by decide +kernel
theorem dX5_howManyAreZero_0 : decode cX5_howManyAreZero 0 = .ok (.iconst 0, 1) := by decide +kernel
theorem dX5_howManyAreZero_1 : decode cX5_howManyAreZero 1 = .ok (.istore_n 1, 1) := by decide +kernel
theorem dX5_howManyAreZero_2 : decode cX5_howManyAreZero 2 = .ok (.iconst 0, 1) := by decide +kernel
theorem dX5_howManyAreZero_3 : decode cX5_howManyAreZero 3 = .ok (.istore_n 2, 1) := by decide +kernel
theorem dX5_howManyAreZero_4 : decode cX5_howManyAreZero 4 = .ok (.iload_n 2, 1) := by decide +kernel
theorem dX5_howManyAreZero_5 : decode cX5_howManyAreZero 5 = .ok (.aload_n 0, 1) := by decide +kernel
theorem dX5_howManyAreZero_6 : decode cX5_howManyAreZero 6 = .ok (.getfield 15, 3) := by decide +kernel
theorem dX5_howManyAreZero_9 : decode cX5_howManyAreZero 9 = .ok (.if_icmp .ge 30, 3) := by decide +kernel
theorem dX5_howManyAreZero_12 : decode cX5_howManyAreZero 12 = .ok (.iload_n 2, 1) := by decide +kernel
theorem dX5_howManyAreZero_13 : decode cX5_howManyAreZero 13 = .ok (.aload_n 0, 1) := by decide +kernel
theorem dX5_howManyAreZero_14 : decode cX5_howManyAreZero 14 = .ok (.getfield 9, 3) := by decide +kernel
theorem dX5_howManyAreZero_17 : decode cX5_howManyAreZero 17 = .ok (.arraylength, 1) := by decide +kernel
theorem dX5_howManyAreZero_18 : decode cX5_howManyAreZero 18 = .ok (.if_icmp .ge 21, 3) := by decide +kernel
theorem dX5_howManyAreZero_21 : decode cX5_howManyAreZero 21 = .ok (.aload_n 0, 1) := by decide +kernel
theorem dX5_howManyAreZero_22 : decode cX5_howManyAreZero 22 = .ok (.getfield 9, 3) := by decide +kernel
theorem dX5_howManyAreZero_25 : decode cX5_howManyAreZero 25 = .ok (.iload_n 2, 1) := by decide +kernel
theorem dX5_howManyAreZero_26 : decode cX5_howManyAreZero 26 = .ok (.iaload, 1) := by decide +kernel
theorem dX5_howManyAreZero_27 : decode cX5_howManyAreZero 27 = .ok (.ifCond .ne 6, 3) := by decide +kernel
theorem dX5_howManyAreZero_30 : decode cX5_howManyAreZero 30 = .ok (.iinc 1 1, 3) := by decide +kernel
theorem dX5_howManyAreZero_33 : decode cX5_howManyAreZero 33 = .ok (.iinc 2 1, 3) := by decide +kernel
theorem dX5_howManyAreZero_36 : decode cX5_howManyAreZero 36 = .ok (.goto (-32), 3) := by decide +kernel
theorem dX5_howManyAreZero_39 : decode cX5_howManyAreZero 39 = .ok (.iload_n 1, 1) := by decide +kernel
theorem dX5_howManyAreZero_40 : decode cX5_howManyAreZero 40 = .ok (.ireturn, 1) := by decide +kernel
set_option maxRecDepth 20000 in
theorem ggX5_howManyAheadOf_X5_weightOf : GoodIn wsX5_howManyAheadOf wsX5_weightOf := goodIn_r _ [7, 2, 8, 9] (by decide +kernel) (by decide +kernel)
set_option maxRecDepth 20000 in
theorem gX5_howManyAheadOf_X5_weightOf : GoodIn wsX5_howManyAheadOf (wsV RX5 32 RX5 yX5_weightOf wsX5_weightOf) := goodIn_app (goodIn_of _ (by decide +kernel)) ggX5_howManyAheadOf_X5_weightOf
theorem dX5_howManyAheadOf_0 : decode cX5_howManyAheadOf 0 = .ok (.aload_n 0, 1) := by decide +kernel
theorem dX5_howManyAheadOf_1 : decode cX5_howManyAheadOf 1 = .ok (.iload_n 1, 1) := by decide +kernel
theorem dX5_howManyAheadOf_2 : decode cX5_howManyAheadOf 2 = .ok (.invokevirtual 32, 3) := by decide +kernel
theorem dX5_howManyAheadOf_5 : decode cX5_howManyAheadOf 5 = .ok (.istore_n 2, 1) := by decide +kernel
theorem dX5_howManyAheadOf_6 : decode cX5_howManyAheadOf 6 = .ok (.iconst 0, 1) := by decide +kernel
theorem dX5_howManyAheadOf_7 : decode cX5_howManyAheadOf 7 = .ok (.istore_n 3, 1) := by decide +kernel
theorem dX5_howManyAheadOf_8 : decode cX5_howManyAheadOf 8 = .ok (.iconst 0, 1) := by decide +kernel
theorem dX5_howManyAheadOf_9 : decode cX5_howManyAheadOf 9 = .ok (.istore 4, 2) := by decide +kernel
theorem dX5_howManyAheadOf_11 : decode cX5_howManyAheadOf 11 = .ok (.iload 4, 2) := by decide +kernel
theorem dX5_howManyAheadOf_13 : decode cX5_howManyAheadOf 13 = .ok (.aload_n 0, 1) := by decide +kernel
theorem dX5_howManyAheadOf_14 : decode cX5_howManyAheadOf 14 = .ok (.getfield 15, 3) := by decide +kernel
theorem dX5_howManyAheadOf_17 : decode cX5_howManyAheadOf 17 = .ok (.if_icmp .ge 50, 3) := by decide +kernel
theorem dX5_howManyAheadOf_20 : decode cX5_howManyAheadOf 20 = .ok (.iload 4, 2) := by decide +kernel
theorem dX5_howManyAheadOf_22 : decode cX5_howManyAheadOf 22 = .ok (.aload_n 0, 1) := by decide +kernel
theorem dX5_howManyAheadOf_23 : decode cX5_howManyAheadOf 23 = .ok (.getfield 9, 3) := by decide +kernel
theorem dX5_howManyAheadOf_26 : decode cX5_howManyAheadOf 26 = .ok (.arraylength, 1) := by decide +kernel
theorem dX5_howManyAheadOf_27 : decode cX5_howManyAheadOf 27 = .ok (.if_icmp .ge 40, 3) := by decide +kernel
theorem dX5_howManyAheadOf_30 : decode cX5_howManyAheadOf 30 = .ok (.aload_n 0, 1) := by decide +kernel
theorem dX5_howManyAheadOf_31 : decode cX5_howManyAheadOf 31 = .ok (.getfield 9, 3) := by decide +kernel
theorem dX5_howManyAheadOf_34 : decode cX5_howManyAheadOf 34 = .ok (.iload 4, 2) := by decide +kernel
theorem dX5_howManyAheadOf_36 : decode cX5_howManyAheadOf 36 = .ok (.iaload, 1) := by decide +kernel
theorem dX5_howManyAheadOf_37 : decode cX5_howManyAheadOf 37 = .ok (.iload_n 2, 1) := by decide +kernel
theorem dX5_howManyAheadOf_38 : decode cX5_howManyAheadOf 38 = .ok (.if_icmp .gt 20, 3) := by decide +kernel
theorem dX5_howManyAheadOf_41 : decode cX5_howManyAheadOf 41 = .ok (.aload_n 0, 1) := by decide +kernel
theorem dX5_howManyAheadOf_42 : decode cX5_howManyAheadOf 42 = .ok (.getfield 9, 3) := by decide +kernel
theorem dX5_howManyAheadOf_45 : decode cX5_howManyAheadOf 45 = .ok (.iload 4, 2) := by decide +kernel
theorem dX5_howManyAheadOf_47 : decode cX5_howManyAheadOf 47 = .ok (.iaload, 1) := by decide +kernel
theorem dX5_howManyAheadOf_48 : decode cX5_howManyAheadOf 48 = .ok (.iload_n 2, 1) := by decide +kernel
theorem dX5_howManyAheadOf_49 : decode cX5_howManyAheadOf 49 = .ok (.if_icmp .ne 12, 3) := by decide +kernel
theorem dX5_howManyAheadOf_52 : decode cX5_howManyAheadOf 52 = .ok (.iload 4, 2) := by decide +kernel
theorem dX5_howManyAheadOf_54 : decode cX5_howManyAheadOf 54 = .ok (.iload_n 1, 1) := by decide +kernel
theorem dX5_howManyAheadOf_55 : decode cX5_howManyAheadOf 55 = .ok (.if_icmp .ge 6, 3) := by decide +kernel
theorem dX5_howManyAheadOf_58 : decode cX5_howManyAheadOf 58 = .ok (.iinc 3 1, 3) := by decide +kernel
theorem dX5_howManyAheadOf_61 : decode cX5_howManyAheadOf 61 = .ok (.iinc 4 1, 3) := by decide +kernel
theorem dX5_howManyAheadOf_64 : decode cX5_howManyAheadOf 64 = .ok (.goto (-53), 3) := by decide +kernel
theorem dX5_howManyAheadOf_67 : decode cX5_howManyAheadOf 67 = .ok (.iload_n 3, 1) := by decide +kernel
theorem dX5_howManyAheadOf_68 : decode cX5_howManyAheadOf 68 = .ok (.ireturn, 1) := by decide +kernel
theorem dX5_firstAbove_0 : decode cX5_firstAbove 0 = .ok (.lconst 0, 1) := by decide +kernel
theorem dX5_firstAbove_1 : decode cX5_firstAbove 1 = .ok (.lstore_n 3, 1) := by decide +kernel
theorem dX5_firstAbove_2 : decode cX5_firstAbove 2 = .ok (.iconst 0, 1) := by decide +kernel
theorem dX5_firstAbove_3 : decode cX5_firstAbove 3 = .ok (.istore 5, 2) := by decide +kernel
theorem dX5_firstAbove_5 : decode cX5_firstAbove 5 = .ok (.iload 5, 2) := by decide +kernel
theorem dX5_firstAbove_7 : decode cX5_firstAbove 7 = .ok (.aload_n 0, 1) := by decide +kernel
theorem dX5_firstAbove_8 : decode cX5_firstAbove 8 = .ok (.getfield 15, 3) := by decide +kernel
theorem dX5_firstAbove_11 : decode cX5_firstAbove 11 = .ok (.if_icmp .ge 45, 3) := by decide +kernel
theorem dX5_firstAbove_14 : decode cX5_firstAbove 14 = .ok (.iload 5, 2) := by decide +kernel
theorem dX5_firstAbove_16 : decode cX5_firstAbove 16 = .ok (.aload_n 0, 1) := by decide +kernel
theorem dX5_firstAbove_17 : decode cX5_firstAbove 17 = .ok (.getfield 9, 3) := by decide +kernel
theorem dX5_firstAbove_20 : decode cX5_firstAbove 20 = .ok (.arraylength, 1) := by decide +kernel
theorem dX5_firstAbove_21 : decode cX5_firstAbove 21 = .ok (.if_icmp .ge 35, 3) := by decide +kernel
theorem dX5_firstAbove_24 : decode cX5_firstAbove 24 = .ok (.lload_n 3, 1) := by decide +kernel
theorem dX5_firstAbove_25 : decode cX5_firstAbove 25 = .ok (.aload_n 0, 1) := by decide +kernel
theorem dX5_firstAbove_26 : decode cX5_firstAbove 26 = .ok (.getfield 9, 3) := by decide +kernel
theorem dX5_firstAbove_29 : decode cX5_firstAbove 29 = .ok (.iload 5, 2) := by decide +kernel
theorem dX5_firstAbove_31 : decode cX5_firstAbove 31 = .ok (.iaload, 1) := by decide +kernel
theorem dX5_firstAbove_32 : decode cX5_firstAbove 32 = .ok (.i2l, 1) := by decide +kernel
theorem dX5_firstAbove_33 : decode cX5_firstAbove 33 = .ok (.ladd, 1) := by decide +kernel
theorem dX5_firstAbove_34 : decode cX5_firstAbove 34 = .ok (.lstore_n 3, 1) := by decide +kernel
theorem dX5_firstAbove_35 : decode cX5_firstAbove 35 = .ok (.aload_n 0, 1) := by decide +kernel
theorem dX5_firstAbove_36 : decode cX5_firstAbove 36 = .ok (.getfield 15, 3) := by decide +kernel
theorem dX5_firstAbove_39 : decode cX5_firstAbove 39 = .ok (.i2l, 1) := by decide +kernel
theorem dX5_firstAbove_40 : decode cX5_firstAbove 40 = .ok (.lload_n 3, 1) := by decide +kernel
theorem dX5_firstAbove_41 : decode cX5_firstAbove 41 = .ok (.lmul, 1) := by decide +kernel
theorem dX5_firstAbove_42 : decode cX5_firstAbove 42 = .ok (.lload_n 1, 1) := by decide +kernel
theorem dX5_firstAbove_43 : decode cX5_firstAbove 43 = .ok (.lcmp, 1) := by decide +kernel
theorem dX5_firstAbove_44 : decode cX5_firstAbove 44 = .ok (.ifCond .le 6, 3) := by decide +kernel
theorem dX5_firstAbove_47 : decode cX5_firstAbove 47 = .ok (.iload 5, 2) := by decide +kernel
theorem dX5_firstAbove_49 : decode cX5_firstAbove 49 = .ok (.ireturn, 1) := by decide +kernel
theorem dX5_firstAbove_50 : decode cX5_firstAbove 50 = .ok (.iinc 5 1, 3) := by decide +kernel
theorem dX5_firstAbove_53 : decode cX5_firstAbove 53 = .ok (.goto (-48), 3) := by decide +kernel
theorem dX5_firstAbove_56 : decode cX5_firstAbove 56 = .ok (.iconst 0, 1) := by decide +kernel
theorem dX5_firstAbove_57 : decode cX5_firstAbove 57 = .ok (.ireturn, 1) := by decide +kernel
set_option maxRecDepth 20000 in
theorem ggX6_init_X0_init : GoodIn wsX6_init wsX0_init := goodIn_r _ [23, 24, 2, 3, 25, 26, 27, 28, 29, 110, 111, 112] (by decide +kernel) (by decide +kernel)
set_option maxRecDepth 20000 in
theorem gX6_init_X0_init : GoodIn wsX6_init (wsX0_init) := ggX6_init_X0_init
set_option maxRecDepth 20000 in
theorem ggX6_init_X4_init : GoodIn wsX6_init wsX4_init := goodIn_r _ [32, 33, 2, 3, 34, 35, 36, 37, 38, 39, 40, 41, 42, 43, 44, 45, 46, 47, 48, 49, 50, 51, 52, 53, 54, 55, 56, 57, 58, 59, 60, 61, 62, 63, 64, 65, 66, 67, 25, 68, 69, 70, 71, 72, 73, 74, 75, 76, 77, 78, 79, 80, 81, 82, 9, 83, 84, 85, 86, 87, 88, 89, 90, 91, 92, 93, 94, 95, 96, 97, 98, 99, 100, 101, 102, 103, 104, 138, 139, 140, 141, 142, 143, 144, 145, 113, 114, 115, 116, 117, 118, 119, 146, 147, 148] (by decide +kernel) (by decide +kernel)
set_option maxRecDepth 20000 in
theorem gX6_init_X4_init : GoodIn wsX6_init (wsX4_init) := ggX6_init_X4_init
set_option maxRecDepth 20000 in
theorem ggX6_init_X3_init : GoodIn wsX6_init wsX3_init := goodIn_r _ [107, 108, 2, 3, 25, 109, 128, 129, 130, 131, 132, 133, 134, 135, 136, 137] (by decide +kernel) (by decide +kernel)
set_option maxRecDepth 20000 in
theorem gX6_init_X3_init : GoodIn wsX6_init (wsX3_init) := ggX6_init_X3_init
theorem dX6_init_0 : decode cX6_init 0 = .ok (.aload_n 0, 1) := by decide +kernel
theorem dX6_init_1 : decode cX6_init 1 = .ok (.invokespecial 1, 3) := by decide +kernel
theorem dX6_init_4 : decode cX6_init 4 = .ok (.new 7, 3) := by decide +kernel
theorem dX6_init_7 : decode cX6_init 7 = .ok (.dup, 1) := by decide +kernel
theorem dX6_init_8 : decode cX6_init 8 = .ok (.invokespecial 9, 3) := by decide +kernel
theorem dX6_init_11 : decode cX6_init 11 = .ok (.astore_n 1, 1) := by decide +kernel
theorem dX6_init_12 : decode cX6_init 12 = .ok (.aload_n 0, 1) := by decide +kernel
theorem dX6_init_13 : decode cX6_init 13 = .ok (.new 10, 3) := by decide +kernel
theorem dX6_init_16 : decode cX6_init 16 = .ok (.dup, 1) := by decide +kernel
theorem dX6_init_17 : decode cX6_init 17 = .ok (.aload_n 1, 1) := by decide +kernel
theorem dX6_init_18 : decode cX6_init 18 = .ok (.invokespecial 12, 3) := by decide +kernel
theorem dX6_init_21 : decode cX6_init 21 = .ok (.putfield 15, 3) := by decide +kernel
theorem dX6_init_24 : decode cX6_init 24 = .ok (.aload_n 0, 1) := by decide +kernel
theorem dX6_init_25 : decode cX6_init 25 = .ok (.new 10, 3) := by decide +kernel
theorem dX6_init_28 : decode cX6_init 28 = .ok (.dup, 1) := by decide +kernel
theorem dX6_init_29 : decode cX6_init 29 = .ok (.aload_n 1, 1) := by decide +kernel
theorem dX6_init_30 : decode cX6_init 30 = .ok (.invokespecial 12, 3) := by decide +kernel
theorem dX6_init_33 : decode cX6_init 33 = .ok (.putfield 21, 3) := by decide +kernel
theorem dX6_init_36 : decode cX6_init 36 = .ok (.aload_n 0, 1) := by decide +kernel
theorem dX6_init_37 : decode cX6_init 37 = .ok (.new 10, 3) := by decide +kernel
theorem dX6_init_40 : decode cX6_init 40 = .ok (.dup, 1) := by decide +kernel
theorem dX6_init_41 : decode cX6_init 41 = .ok (.aload_n 1, 1) := by decide +kernel
theorem dX6_init_42 : decode cX6_init 42 = .ok (.invokespecial 12, 3) := by decide +kernel
theorem dX6_init_45 : decode cX6_init 45 = .ok (.putfield 24, 3) := by decide +kernel
theorem dX6_init_48 : decode cX6_init 48 = .ok (.aload_n 0, 1) := by decide +kernel
theorem dX6_init_49 : decode cX6_init 49 = .ok (.new 10, 3) := by decide +kernel
theorem dX6_init_52 : decode cX6_init 52 = .ok (.dup, 1) := by decide +kernel
theorem dX6_init_53 : decode cX6_init 53 = .ok (.aload_n 1, 1) := by decide +kernel
theorem dX6_init_54 : decode cX6_init 54 = .ok (.invokespecial 12, 3) := by decide +kernel
theorem dX6_init_57 : decode cX6_init 57 = .ok (.putfield 27, 3) := by decide +kernel
theorem dX6_init_60 : decode cX6_init 60 = .ok (.aload_n 0, 1) := by decide +kernel
theorem dX6_init_61 : decode cX6_init 61 = .ok (.new 10, 3) := by decide +kernel
theorem dX6_init_64 : decode cX6_init 64 = .ok (.dup, 1) := by decide +kernel
theorem dX6_init_65 : decode cX6_init 65 = .ok (.aload_n 1, 1) := by decide +kernel
theorem dX6_init_66 : decode cX6_init 66 = .ok (.invokespecial 12, 3) := by decide +kernel
theorem dX6_init_69 : decode cX6_init 69 = .ok (.putfield 30, 3) := by decide +kernel
theorem dX6_init_72 : decode cX6_init 72 = .ok (.aload_n 0, 1) := by decide +kernel
theorem dX6_init_73 : decode cX6_init 73 = .ok (.new 10, 3) := by decide +kernel
theorem dX6_init_76 : decode cX6_init 76 = .ok (.dup, 1) := by decide +kernel
theorem dX6_init_77 : decode cX6_init 77 = .ok (.aload_n 1, 1) := by decide +kernel
theorem dX6_init_78 : decode cX6_init 78 = .ok (.invokespecial 12, 3) := by decide +kernel
theorem dX6_init_81 : decode cX6_init 81 = .ok (.putfield 33, 3) := by decide +kernel
theorem dX6_init_84 : decode cX6_init 84 = .ok (.aload_n 0, 1) := by decide +kernel
theorem dX6_init_85 : decode cX6_init 85 = .ok (.iconst 0, 1) := by decide +kernel
theorem dX6_init_86 : decode cX6_init 86 = .ok (.putfield 36, 3) := by decide +kernel
theorem dX6_init_89 : decode cX6_init 89 = .ok (.aload_n 0, 1) := by decide +kernel
theorem dX6_init_90 : decode cX6_init 90 = .ok (.new 40, 3) := by decide +kernel
theorem dX6_init_93 : decode cX6_init 93 = .ok (.dup, 1) := by decide +kernel
theorem dX6_init_94 : decode cX6_init 94 = .ok (.invokespecial 42, 3) := by decide +kernel
theorem dX6_init_97 : decode cX6_init 97 = .ok (.putfield 43, 3) := by decide +kernel
theorem dX6_init_100 : decode cX6_init 100 = .ok (.return_, 1) := by decide +kernel
set_option maxRecDepth 20000 in
theorem ggX6_begin_X4_copyState : GoodIn wsX6_begin wsX4_copyState := goodIn_r _ [7, 8, 9, 10, 11, 12, 13, 14, 15, 16, 17, 18, 19, 20, 21, 22, 23, 24, 25, 26, 27, 28, 29, 30, 31, 32, 33, 34, 35, 36, 37, 38, 39, 40, 97, 98, 99, 100, 101, 102, 103, 104, 105, 106, 107, 108, 109, 110, 111, 112, 113, 114] (by decide +kernel) (by decide +kernel)
set_option maxRecDepth 20000 in
theorem gX6_begin_X4_copyState : GoodIn wsX6_begin (wsV RX6 47 RX4 yX4_copyState wsX4_copyState) := goodIn_app (goodIn_of _ (by decide +kernel)) ggX6_begin_X4_copyState
set_option maxRecDepth 20000 in
theorem ggX6_begin_X4_beginAnew : GoodIn wsX6_begin wsX4_beginAnew := goodIn_r _ [44, 45, 8, 46, 47, 48, 49, 50, 51, 17, 52, 26, 53, 54, 55, 6, 56, 9, 11, 12, 13, 57, 58, 59, 60, 25, 21, 19, 61, 62, 63, 30, 64, 32, 65, 66, 67, 68, 69, 70, 71, 72, 73, 74, 75, 76, 36, 77, 39, 78, 79, 38, 97, 98, 99, 100, 101, 102, 103, 104, 105, 106, 107, 108, 109, 110, 111, 112, 113, 114] (by decide +kernel) (by decide +kernel)
set_option maxRecDepth 20000 in
theorem gX6_begin_X4_beginAnew : GoodIn wsX6_begin (wsV RX6 51 RX4 yX4_beginAnew wsX4_beginAnew) := goodIn_app (goodIn_of _ (by decide +kernel)) ggX6_begin_X4_beginAnew
set_option maxRecDepth 20000 in
theorem ggX6_begin_X6_keepDraftUnlessError : GoodIn wsX6_begin wsX6_keepDraftUnlessError := goodIn_r _ [83, 84, 85, 86, 87, 2, 1, 88, 67, 68, 69, 70, 89, 90, 91, 92, 93, 94, 95, 96] (by decide +kernel) (by decide +kernel)
set_option maxRecDepth 20000 in
theorem gX6_begin_X6_keepDraftUnlessError : GoodIn wsX6_begin (wsV RX6 55 RX6 yX6_keepDraftUnlessError wsX6_keepDraftUnlessError) := goodIn_app (goodIn_of _ (by decide +kernel)) ggX6_begin_X6_keepDraftUnlessError
theorem dX6_begin_0 : decode cX6_begin 0 = .ok (.aload_n 0, 1) := by decide +kernel
theorem dX6_begin_1 : decode cX6_begin 1 = .ok (.getfield 21, 3) := by decide +kernel
theorem dX6_begin_4 : decode cX6_begin 4 = .ok (.aload_n 0, 1) := by decide +kernel
theorem dX6_begin_5 : decode cX6_begin 5 = .ok (.getfield 15, 3) := by decide +kernel
theorem dX6_begin_8 : decode cX6_begin 8 = .ok (.invokevirtual 47, 3) := by decide +kernel
theorem dX6_begin_11 : decode cX6_begin 11 = .ok (.aload_n 0, 1) := by decide +kernel
theorem dX6_begin_12 : decode cX6_begin 12 = .ok (.aload_n 0, 1) := by decide +kernel
theorem dX6_begin_13 : decode cX6_begin 13 = .ok (.getfield 21, 3) := by decide +kernel
theorem dX6_begin_16 : decode cX6_begin 16 = .ok (.iload_n 1, 1) := by decide +kernel
theorem dX6_begin_17 : decode cX6_begin 17 = .ok (.iload_n 2, 1) := by decide +kernel
theorem dX6_begin_18 : decode cX6_begin 18 = .ok (.iload_n 3, 1) := by decide +kernel
theorem dX6_begin_19 : decode cX6_begin 19 = .ok (.invokevirtual 51, 3) := by decide +kernel
theorem dX6_begin_22 : decode cX6_begin 22 = .ok (.invokevirtual 55, 3) := by decide +kernel
theorem dX6_begin_25 : decode cX6_begin 25 = .ok (.ireturn, 1) := by decide +kernel
set_option maxRecDepth 20000 in
theorem ggX6_weigh_X4_copyState : GoodIn wsX6_weigh wsX4_copyState := goodIn_r _ [7, 8, 9, 10, 11, 12, 13, 14, 15, 16, 17, 18, 19, 20, 21, 22, 23, 24, 25, 26, 27, 28, 29, 30, 31, 32, 33, 34, 35, 36, 37, 38, 39, 40, 94, 95, 96, 97, 98, 99, 100, 101, 102, 103, 104, 105, 106, 107, 108, 109, 110, 111] (by decide +kernel) (by decide +kernel)
set_option maxRecDepth 20000 in
theorem gX6_weigh_X4_copyState : GoodIn wsX6_weigh (wsV RX6 47 RX4 yX4_copyState wsX4_copyState) := goodIn_app (goodIn_of _ (by decide +kernel)) ggX6_weigh_X4_copyState
set_option maxRecDepth 20000 in
theorem ggX6_weigh_X4_changeWeight : GoodIn wsX6_weigh wsX4_changeWeight := goodIn_r _ [44, 45, 46, 9, 47, 48, 49, 50, 6, 51, 8, 52, 53, 54, 17, 55, 25, 56, 57, 58, 59, 60, 61, 36, 62, 39, 63, 64, 65, 66, 38, 67, 68, 69, 70, 71, 72, 94, 95, 96, 97, 98, 99, 100, 101, 102, 103, 104, 105, 106, 107, 108, 110, 111] (by decide +kernel) (by decide +kernel)
set_option maxRecDepth 20000 in
theorem gX6_weigh_X4_changeWeight : GoodIn wsX6_weigh (wsV RX6 59 RX4 yX4_changeWeight wsX4_changeWeight) := goodIn_app (goodIn_of _ (by decide +kernel)) ggX6_weigh_X4_changeWeight
set_option maxRecDepth 20000 in
theorem ggX6_weigh_X6_keepDraftUnlessError : GoodIn wsX6_weigh wsX6_keepDraftUnlessError := goodIn_r _ [76, 77, 78, 79, 80, 2, 1, 81, 82, 83, 84, 85, 86, 87, 88, 89, 90, 91, 92, 93] (by decide +kernel) (by decide +kernel)
set_option maxRecDepth 20000 in
theorem gX6_weigh_X6_keepDraftUnlessError : GoodIn wsX6_weigh (wsV RX6 55 RX6 yX6_keepDraftUnlessError wsX6_keepDraftUnlessError) := goodIn_app (goodIn_of _ (by decide +kernel)) ggX6_weigh_X6_keepDraftUnlessError
theorem dX6_weigh_0 : decode cX6_weigh 0 = .ok (.aload_n 0, 1) := by decide +kernel
theorem dX6_weigh_1 : decode cX6_weigh 1 = .ok (.getfield 21, 3) := by decide +kernel
theorem dX6_weigh_4 : decode cX6_weigh 4 = .ok (.aload_n 0, 1) := by decide +kernel
theorem dX6_weigh_5 : decode cX6_weigh 5 = .ok (.getfield 15, 3) := by decide +kernel
theorem dX6_weigh_8 : decode cX6_weigh 8 = .ok (.invokevirtual 47, 3) := by decide +kernel
theorem dX6_weigh_11 : decode cX6_weigh 11 = .ok (.aload_n 0, 1) := by decide +kernel
theorem dX6_weigh_12 : decode cX6_weigh 12 = .ok (.aload_n 0, 1) := by decide +kernel
theorem dX6_weigh_13 : decode cX6_weigh 13 = .ok (.getfield 21, 3) := by decide +kernel
theorem dX6_weigh_16 : decode cX6_weigh 16 = .ok (.iload_n 1, 1) := by decide +kernel
theorem dX6_weigh_17 : decode cX6_weigh 17 = .ok (.iload_n 2, 1) := by decide +kernel
theorem dX6_weigh_18 : decode cX6_weigh 18 = .ok (.invokevirtual 59, 3) := by decide +kernel
theorem dX6_weigh_21 : decode cX6_weigh 21 = .ok (.invokevirtual 55, 3) := by decide +kernel
theorem dX6_weigh_24 : decode cX6_weigh 24 = .ok (.ireturn, 1) := by decide +kernel
set_option maxRecDepth 20000 in
theorem ggX6_move_X4_copyState : GoodIn wsX6_move wsX4_copyState := goodIn_r _ [7, 8, 9, 10, 11, 12, 13, 14, 15, 16, 17, 18, 19, 20, 21, 22, 23, 24, 25, 26, 27, 28, 29, 30, 31, 32, 33, 34, 35, 36, 37, 38, 39, 40, 112, 113, 114, 115, 116, 117, 118, 119, 120, 121, 122, 123, 124, 125, 126, 127, 128, 129] (by decide +kernel) (by decide +kernel)
set_option maxRecDepth 20000 in
theorem gX6_move_X4_copyState : GoodIn wsX6_move (wsV RX6 47 RX4 yX4_copyState wsX4_copyState) := goodIn_app (goodIn_of _ (by decide +kernel)) ggX6_move_X4_copyState
set_option maxRecDepth 20000 in
theorem ggX6_move_X4_shift : GoodIn wsX6_move wsX4_shift := goodIn_r _ [44, 45, 8, 46, 11, 47, 48, 49, 50, 51, 52, 17, 53, 26, 54, 55, 56, 57, 58, 59, 60, 61, 21, 22, 23, 62, 63, 64, 30, 65, 32, 66, 67, 68, 69, 25, 70, 71, 72, 73, 74, 75, 76, 19, 77, 78, 79, 80, 81, 82, 83, 84, 85, 86, 87, 88, 89, 90, 91, 92, 93, 20, 94, 112, 113, 114, 115, 116, 117, 118, 119, 120, 121, 122, 123, 124, 125, 126, 127] (by decide +kernel) (by decide +kernel)
set_option maxRecDepth 20000 in
theorem gX6_move_X4_shift : GoodIn wsX6_move (wsV RX6 63 RX4 yX4_shift wsX4_shift) := goodIn_app (goodIn_of _ (by decide +kernel)) ggX6_move_X4_shift
set_option maxRecDepth 20000 in
theorem ggX6_move_X6_keepDraftUnlessError : GoodIn wsX6_move wsX6_keepDraftUnlessError := goodIn_r _ [98, 99, 100, 101, 102, 2, 1, 103, 83, 84, 85, 86, 104, 105, 106, 107, 108, 109, 110, 111] (by decide +kernel) (by decide +kernel)
set_option maxRecDepth 20000 in
theorem gX6_move_X6_keepDraftUnlessError : GoodIn wsX6_move (wsV RX6 55 RX6 yX6_keepDraftUnlessError wsX6_keepDraftUnlessError) := goodIn_app (goodIn_of _ (by decide +kernel)) ggX6_move_X6_keepDraftUnlessError
theorem dX6_move_0 : decode cX6_move 0 = .ok (.aload_n 0, 1) := by decide +kernel
theorem dX6_move_1 : decode cX6_move 1 = .ok (.getfield 21, 3) := by decide +kernel
theorem dX6_move_4 : decode cX6_move 4 = .ok (.aload_n 0, 1) := by decide +kernel
theorem dX6_move_5 : decode cX6_move 5 = .ok (.getfield 15, 3) := by decide +kernel
theorem dX6_move_8 : decode cX6_move 8 = .ok (.invokevirtual 47, 3) := by decide +kernel
theorem dX6_move_11 : decode cX6_move 11 = .ok (.aload_n 0, 1) := by decide +kernel
theorem dX6_move_12 : decode cX6_move 12 = .ok (.aload_n 0, 1) := by decide +kernel
theorem dX6_move_13 : decode cX6_move 13 = .ok (.getfield 21, 3) := by decide +kernel
theorem dX6_move_16 : decode cX6_move 16 = .ok (.iload_n 1, 1) := by decide +kernel
theorem dX6_move_17 : decode cX6_move 17 = .ok (.iload_n 2, 1) := by decide +kernel
theorem dX6_move_18 : decode cX6_move 18 = .ok (.invokevirtual 63, 3) := by decide +kernel
theorem dX6_move_21 : decode cX6_move 21 = .ok (.invokevirtual 55, 3) := by decide +kernel
theorem dX6_move_24 : decode cX6_move 24 = .ok (.ireturn, 1) := by decide +kernel
set_option maxRecDepth 20000 in
theorem ggX6_observe_X4_copyState : GoodIn wsX6_observe wsX4_copyState := goodIn_r _ [7, 8, 9, 10, 11, 12, 13, 14, 15, 16, 17, 18, 19, 20, 21, 22, 23, 24, 25, 26, 27, 28, 29, 30, 31, 32, 33, 34, 35, 36, 37, 38, 39, 40, 206, 207, 208, 209, 210, 211, 212, 213, 214, 215, 216, 217, 218, 219, 220, 221, 222, 223] (by decide +kernel) (by decide +kernel)
set_option maxRecDepth 20000 in
theorem gX6_observe_X4_copyState : GoodIn wsX6_observe (wsV RX6 47 RX4 yX4_copyState wsX4_copyState) := goodIn_app (goodIn_of _ (by decide +kernel)) ggX6_observe_X4_copyState
set_option maxRecDepth 20000 in
theorem ggX6_observe_X4_look : GoodIn wsX6_observe wsX4_look := goodIn_r _ [44, 45, 8, 46, 47, 48, 49, 9, 50, 51, 52, 53, 54, 55, 12, 10, 56, 57, 58, 59, 60, 61, 17, 62, 25, 63, 64, 65, 66, 26, 67, 68, 69, 70, 19, 71, 72, 73, 30, 74, 32, 75, 76, 77, 36, 78, 39, 79, 80, 81, 82, 83, 84, 85, 86, 38, 87, 88, 89, 90, 91, 92, 93, 94, 95, 96, 97, 98, 99, 100, 101, 6, 102, 103, 11, 13, 104, 105, 106, 107, 108, 109, 110, 111, 112, 113, 114, 115, 116, 117, 118, 119, 120, 121, 122, 123, 124, 125, 126, 127, 128, 129, 130, 131, 132, 133, 134, 135, 136, 137, 138, 139, 140, 141, 142, 143, 144, 145, 146, 147, 148, 21, 24, 149, 150, 151, 152, 153, 154, 155, 156, 157, 158, 159, 160, 20, 161, 162, 163, 164, 165, 166, 167, 168, 169, 170, 171, 172, 173, 174, 175, 176, 177, 178, 179, 180, 181, 182, 183, 184, 185, 186, 187, 206, 207, 208, 209, 210, 211, 212, 213, 214, 215, 216, 217, 218, 219, 220, 221, 222, 223, 224, 225, 226] (by decide +kernel) (by decide +kernel)
set_option maxRecDepth 20000 in
theorem gX6_observe_X4_look : GoodIn wsX6_observe (wsV RX6 66 RX4 yX4_look wsX4_look) := goodIn_app (goodIn_of _ (by decide +kernel)) ggX6_observe_X4_look
set_option maxRecDepth 20000 in
theorem ggX6_observe_X6_keepDraftUnlessError : GoodIn wsX6_observe wsX6_keepDraftUnlessError := goodIn_r _ [191, 192, 193, 194, 195, 2, 1, 196, 197, 171, 48, 172, 198, 199, 200, 201, 202, 203, 204, 205] (by decide +kernel) (by decide +kernel)
set_option maxRecDepth 20000 in
theorem gX6_observe_X6_keepDraftUnlessError : GoodIn wsX6_observe (wsV RX6 55 RX6 yX6_keepDraftUnlessError wsX6_keepDraftUnlessError) := goodIn_app (goodIn_of _ (by decide +kernel)) ggX6_observe_X6_keepDraftUnlessError
theorem dX6_observe_0 : decode cX6_observe 0 = .ok (.aload_n 0, 1) := by decide +kernel
theorem dX6_observe_1 : decode cX6_observe 1 = .ok (.getfield 21, 3) := by decide +kernel
theorem dX6_observe_4 : decode cX6_observe 4 = .ok (.aload_n 0, 1) := by decide +kernel
theorem dX6_observe_5 : decode cX6_observe 5 = .ok (.getfield 15, 3) := by decide +kernel
theorem dX6_observe_8 : decode cX6_observe 8 = .ok (.invokevirtual 47, 3) := by decide +kernel
theorem dX6_observe_11 : decode cX6_observe 11 = .ok (.aload_n 0, 1) := by decide +kernel
theorem dX6_observe_12 : decode cX6_observe 12 = .ok (.aload_n 0, 1) := by decide +kernel
theorem dX6_observe_13 : decode cX6_observe 13 = .ok (.getfield 21, 3) := by decide +kernel
theorem dX6_observe_16 : decode cX6_observe 16 = .ok (.iload_n 1, 1) := by decide +kernel
theorem dX6_observe_17 : decode cX6_observe 17 = .ok (.iload_n 2, 1) := by decide +kernel
theorem dX6_observe_18 : decode cX6_observe 18 = .ok (.invokevirtual 66, 3) := by decide +kernel
theorem dX6_observe_21 : decode cX6_observe 21 = .ok (.invokevirtual 55, 3) := by decide +kernel
theorem dX6_observe_24 : decode cX6_observe 24 = .ok (.ireturn, 1) := by decide +kernel
set_option maxRecDepth 20000 in
theorem ggX6_resample_X4_copyState : GoodIn wsX6_resample wsX4_copyState := goodIn_r _ [7, 8, 9, 10, 11, 12, 13, 14, 15, 16, 17, 18, 19, 20, 21, 22, 23, 24, 25, 26, 27, 28, 29, 30, 31, 32, 33, 34, 35, 36, 37, 38, 39, 40, 174, 175, 176, 177, 178, 179, 180, 181, 182, 183, 184, 185, 186, 187, 188, 189, 190, 191] (by decide +kernel) (by decide +kernel)
set_option maxRecDepth 20000 in
theorem gX6_resample_X4_copyState : GoodIn wsX6_resample (wsV RX6 47 RX4 yX4_copyState wsX4_copyState) := goodIn_app (goodIn_of _ (by decide +kernel)) ggX6_resample_X4_copyState
set_option maxRecDepth 20000 in
theorem ggX6_resample_X4_renew : GoodIn wsX6_resample wsX4_renew := goodIn_r _ [44, 8, 45, 10, 46, 9, 11, 13, 47, 48, 49, 17, 50, 26, 51, 52, 53, 30, 54, 32, 55, 56, 57, 58, 59, 60, 61, 62, 63, 64, 65, 66, 67, 68, 69, 36, 70, 38, 39, 71, 72, 73, 74, 75, 76, 77, 78, 79, 80, 81, 82, 83, 84, 85, 86, 87, 88, 89, 90, 91, 92, 93, 94, 95, 96, 97, 98, 99, 100, 101, 102, 103, 21, 24, 104, 105, 106, 107, 108, 109, 110, 111, 25, 112, 113, 114, 115, 116, 117, 118, 119, 19, 120, 121, 122, 123, 124, 20, 125, 126, 127, 128, 129, 130, 131, 132, 133, 134, 135, 136, 137, 138, 139, 140, 141, 142, 143, 144, 145, 146, 147, 148, 149, 150, 151, 152, 153, 154, 155, 174, 175, 176, 177, 178, 179, 180, 181, 182, 183, 184, 185, 186, 187, 188, 189, 192, 193, 194, 190, 191] (by decide +kernel) (by decide +kernel)
set_option maxRecDepth 20000 in
theorem gX6_resample_X4_renew : GoodIn wsX6_resample (wsV RX6 69 RX4 yX4_renew wsX4_renew) := goodIn_app (goodIn_of _ (by decide +kernel)) ggX6_resample_X4_renew
set_option maxRecDepth 20000 in
theorem ggX6_resample_X6_keepDraftUnlessError : GoodIn wsX6_resample wsX6_keepDraftUnlessError := goodIn_r _ [159, 160, 161, 162, 163, 2, 1, 164, 165, 135, 136, 137, 166, 167, 168, 169, 170, 171, 172, 173] (by decide +kernel) (by decide +kernel)
set_option maxRecDepth 20000 in
theorem gX6_resample_X6_keepDraftUnlessError : GoodIn wsX6_resample (wsV RX6 55 RX6 yX6_keepDraftUnlessError wsX6_keepDraftUnlessError) := goodIn_app (goodIn_of _ (by decide +kernel)) ggX6_resample_X6_keepDraftUnlessError
theorem dX6_resample_0 : decode cX6_resample 0 = .ok (.aload_n 0, 1) := by decide +kernel
theorem dX6_resample_1 : decode cX6_resample 1 = .ok (.getfield 21, 3) := by decide +kernel
theorem dX6_resample_4 : decode cX6_resample 4 = .ok (.aload_n 0, 1) := by decide +kernel
theorem dX6_resample_5 : decode cX6_resample 5 = .ok (.getfield 15, 3) := by decide +kernel
theorem dX6_resample_8 : decode cX6_resample 8 = .ok (.invokevirtual 47, 3) := by decide +kernel
theorem dX6_resample_11 : decode cX6_resample 11 = .ok (.aload_n 0, 1) := by decide +kernel
theorem dX6_resample_12 : decode cX6_resample 12 = .ok (.aload_n 0, 1) := by decide +kernel
theorem dX6_resample_13 : decode cX6_resample 13 = .ok (.getfield 21, 3) := by decide +kernel
theorem dX6_resample_16 : decode cX6_resample 16 = .ok (.invokevirtual 69, 3) := by decide +kernel
theorem dX6_resample_19 : decode cX6_resample 19 = .ok (.invokevirtual 55, 3) := by decide +kernel
theorem dX6_resample_22 : decode cX6_resample 22 = .ok (.ireturn, 1) := by decide +kernel
set_option maxRecDepth 20000 in
theorem ggX6_set_X4_copyState : GoodIn wsX6_set wsX4_copyState := goodIn_r _ [7, 8, 9, 10, 11, 12, 13, 14, 15, 16, 17, 18, 19, 20, 21, 22, 23, 24, 25, 26, 27, 28, 29, 30, 31, 32, 33, 34, 35, 36, 37, 38, 39, 40, 81, 82, 83, 84, 85, 86, 87, 88, 89, 90, 91, 92, 93, 94, 95, 96, 97, 98] (by decide +kernel) (by decide +kernel)
set_option maxRecDepth 20000 in
theorem gX6_set_X4_copyState : GoodIn wsX6_set (wsV RX6 47 RX4 yX4_copyState wsX4_copyState) := goodIn_app (goodIn_of _ (by decide +kernel)) ggX6_set_X4_copyState
set_option maxRecDepth 20000 in
theorem ggX6_set_X4_putSetting : GoodIn wsX6_set wsX4_putSetting := goodIn_r _ [44, 45, 10, 46, 47, 48, 49, 50, 6, 51, 52, 53, 54, 30, 55, 32, 56, 57, 58, 59, 81, 82, 83, 84, 85, 86, 87, 96] (by decide +kernel) (by decide +kernel)
set_option maxRecDepth 20000 in
theorem gX6_set_X4_putSetting : GoodIn wsX6_set (wsV RX6 73 RX4 yX4_putSetting wsX4_putSetting) := goodIn_app (goodIn_of _ (by decide +kernel)) ggX6_set_X4_putSetting
set_option maxRecDepth 20000 in
theorem ggX6_set_X6_keepDraftUnlessError : GoodIn wsX6_set wsX6_keepDraftUnlessError := goodIn_r _ [63, 64, 65, 66, 67, 2, 1, 68, 69, 70, 71, 72, 73, 74, 75, 76, 77, 78, 79, 80] (by decide +kernel) (by decide +kernel)
set_option maxRecDepth 20000 in
theorem gX6_set_X6_keepDraftUnlessError : GoodIn wsX6_set (wsV RX6 55 RX6 yX6_keepDraftUnlessError wsX6_keepDraftUnlessError) := goodIn_app (goodIn_of _ (by decide +kernel)) ggX6_set_X6_keepDraftUnlessError
theorem dX6_set_0 : decode cX6_set 0 = .ok (.aload_n 0, 1) := by decide +kernel
theorem dX6_set_1 : decode cX6_set 1 = .ok (.getfield 21, 3) := by decide +kernel
theorem dX6_set_4 : decode cX6_set 4 = .ok (.aload_n 0, 1) := by decide +kernel
theorem dX6_set_5 : decode cX6_set 5 = .ok (.getfield 15, 3) := by decide +kernel
theorem dX6_set_8 : decode cX6_set 8 = .ok (.invokevirtual 47, 3) := by decide +kernel
theorem dX6_set_11 : decode cX6_set 11 = .ok (.aload_n 0, 1) := by decide +kernel
theorem dX6_set_12 : decode cX6_set 12 = .ok (.aload_n 0, 1) := by decide +kernel
theorem dX6_set_13 : decode cX6_set 13 = .ok (.getfield 21, 3) := by decide +kernel
theorem dX6_set_16 : decode cX6_set 16 = .ok (.iload_n 1, 1) := by decide +kernel
theorem dX6_set_17 : decode cX6_set 17 = .ok (.iload_n 2, 1) := by decide +kernel
theorem dX6_set_18 : decode cX6_set 18 = .ok (.invokevirtual 73, 3) := by decide +kernel
theorem dX6_set_21 : decode cX6_set 21 = .ok (.invokevirtual 55, 3) := by decide +kernel
theorem dX6_set_24 : decode cX6_set 24 = .ok (.ireturn, 1) := by decide +kernel
set_option maxRecDepth 20000 in
theorem ggX6_particleOf_X4_hasParticle : GoodIn wsX6_particleOf wsX4_hasParticle := goodIn_r _ [7, 8, 9, 10, 11, 12, 13, 14, 15, 16, 17, 80, 81, 82, 83, 84, 85, 86, 87, 88, 89, 90, 91, 92, 93, 94] (by decide +kernel) (by decide +kernel)
set_option maxRecDepth 20000 in
theorem gX6_particleOf_X4_hasParticle : GoodIn wsX6_particleOf (wsV RX6 76 RX4 yX4_hasParticle wsX4_hasParticle) := goodIn_app (goodIn_of _ (by decide +kernel)) ggX6_particleOf_X4_hasParticle
set_option maxRecDepth 20000 in
theorem ggX6_particleOf_X6_isWithin : GoodIn wsX6_particleOf wsX6_isWithin := goodIn_r _ [17] (by decide +kernel) (by decide +kernel)
set_option maxRecDepth 20000 in
theorem gX6_particleOf_X6_isWithin : GoodIn wsX6_particleOf (va_wsS RX6 80 yX6_isWithin wsX6_isWithin) := goodIn_app (goodIn_of _ (by decide +kernel)) ggX6_particleOf_X6_isWithin
set_option maxRecDepth 20000 in
theorem ggX6_particleOf_X4_tellOfParticle : GoodIn wsX6_particleOf wsX4_tellOfParticle := goodIn_r _ [22, 8, 23, 24, 25, 26, 27, 12, 28, 29, 30, 31, 32, 33, 34, 35, 36, 37, 38, 39, 40, 41, 42, 43, 44, 45, 46, 47, 48, 49, 50, 51, 52, 53, 54, 55, 14, 56, 57, 58, 59, 60, 61, 62, 16, 63, 64, 65, 66, 67, 68, 69, 70, 71, 80, 81, 82, 83, 84, 85, 86, 87, 88, 89, 90, 91, 92, 93, 94, 95, 96, 97] (by decide +kernel) (by decide +kernel)
set_option maxRecDepth 20000 in
theorem gX6_particleOf_X4_tellOfParticle : GoodIn wsX6_particleOf (wsV RX6 85 RX4 yX4_tellOfParticle wsX4_tellOfParticle) := goodIn_app (goodIn_of _ (by decide +kernel)) ggX6_particleOf_X4_tellOfParticle
theorem dX6_particleOf_0 : decode cX6_particleOf 0 = .ok (.aload_n 0, 1) := by decide +kernel
theorem dX6_particleOf_1 : decode cX6_particleOf 1 = .ok (.getfield 15, 3) := by decide +kernel
theorem dX6_particleOf_4 : decode cX6_particleOf 4 = .ok (.iload_n 1, 1) := by decide +kernel
theorem dX6_particleOf_5 : decode cX6_particleOf 5 = .ok (.invokevirtual 76, 3) := by decide +kernel
theorem dX6_particleOf_8 : decode cX6_particleOf 8 = .ok (.ifCond .eq 13, 3) := by decide +kernel
theorem dX6_particleOf_11 : decode cX6_particleOf 11 = .ok (.iload_n 2, 1) := by decide +kernel
theorem dX6_particleOf_12 : decode cX6_particleOf 12 = .ok (.iconst 0, 1) := by decide +kernel
theorem dX6_particleOf_13 : decode cX6_particleOf 13 = .ok (.bipush 6, 2) := by decide +kernel
theorem dX6_particleOf_15 : decode cX6_particleOf 15 = .ok (.invokestatic 80, 3) := by decide +kernel
theorem dX6_particleOf_18 : decode cX6_particleOf 18 = .ok (.ifCond .ne 6, 3) := by decide +kernel
theorem dX6_particleOf_21 : decode cX6_particleOf 21 = .ok (.ldc 84, 2) := by decide +kernel
theorem dX6_particleOf_23 : decode cX6_particleOf 23 = .ok (.ireturn, 1) := by decide +kernel
theorem dX6_particleOf_24 : decode cX6_particleOf 24 = .ok (.aload_n 0, 1) := by decide +kernel
theorem dX6_particleOf_25 : decode cX6_particleOf 25 = .ok (.getfield 15, 3) := by decide +kernel
theorem dX6_particleOf_28 : decode cX6_particleOf 28 = .ok (.iload_n 1, 1) := by decide +kernel
theorem dX6_particleOf_29 : decode cX6_particleOf 29 = .ok (.iload_n 2, 1) := by decide +kernel
theorem dX6_particleOf_30 : decode cX6_particleOf 30 = .ok (.invokevirtual 85, 3) := by decide +kernel
theorem dX6_particleOf_33 : decode cX6_particleOf 33 = .ok (.ireturn, 1) := by decide +kernel
set_option maxRecDepth 20000 in
theorem ggX6_generationOf_X4_hasGeneration : GoodIn wsX6_generationOf wsX4_hasGeneration := goodIn_r _ [7, 8, 9, 10, 11, 12, 13, 14, 15, 16, 17, 89, 90, 91, 92, 93, 94, 95, 96, 97, 98, 99, 100, 101, 102, 103] (by decide +kernel) (by decide +kernel)
set_option maxRecDepth 20000 in
theorem gX6_generationOf_X4_hasGeneration : GoodIn wsX6_generationOf (wsV RX6 88 RX4 yX4_hasGeneration wsX4_hasGeneration) := goodIn_app (goodIn_of _ (by decide +kernel)) ggX6_generationOf_X4_hasGeneration
set_option maxRecDepth 20000 in
theorem ggX6_generationOf_X6_isWithin : GoodIn wsX6_generationOf wsX6_isWithin := goodIn_r _ [17] (by decide +kernel) (by decide +kernel)
set_option maxRecDepth 20000 in
theorem gX6_generationOf_X6_isWithin : GoodIn wsX6_generationOf (va_wsS RX6 80 yX6_isWithin wsX6_isWithin) := goodIn_app (goodIn_of _ (by decide +kernel)) ggX6_generationOf_X6_isWithin
set_option maxRecDepth 20000 in
theorem ggX6_generationOf_X4_tellOfGeneration : GoodIn wsX6_generationOf wsX4_tellOfGeneration := goodIn_r _ [22, 8, 23, 24, 25, 26, 12, 27, 28, 29, 30, 31, 32, 33, 34, 35, 36, 37, 38, 39, 40, 41, 42, 43, 44, 45, 46, 47, 48, 49, 50, 51, 52, 53, 54, 55, 56, 57, 58, 59, 60, 10, 11, 13, 14, 61, 62, 63, 64, 65, 66, 67, 68, 69, 70, 71, 72, 73, 74, 75, 76, 77, 78, 79, 80, 89, 90, 91, 92, 93, 94, 95, 96, 97, 98, 99, 100, 101, 102, 103, 104] (by decide +kernel) (by decide +kernel)
set_option maxRecDepth 20000 in
theorem gX6_generationOf_X4_tellOfGeneration : GoodIn wsX6_generationOf (wsV RX6 91 RX4 yX4_tellOfGeneration wsX4_tellOfGeneration) := goodIn_app (goodIn_of _ (by decide +kernel)) ggX6_generationOf_X4_tellOfGeneration
theorem dX6_generationOf_0 : decode cX6_generationOf 0 = .ok (.aload_n 0, 1) := by decide +kernel
theorem dX6_generationOf_1 : decode cX6_generationOf 1 = .ok (.getfield 15, 3) := by decide +kernel
theorem dX6_generationOf_4 : decode cX6_generationOf 4 = .ok (.iload_n 1, 1) := by decide +kernel
theorem dX6_generationOf_5 : decode cX6_generationOf 5 = .ok (.invokevirtual 88, 3) := by decide +kernel
theorem dX6_generationOf_8 : decode cX6_generationOf 8 = .ok (.ifCond .eq 12, 3) := by decide +kernel
theorem dX6_generationOf_11 : decode cX6_generationOf 11 = .ok (.iload_n 2, 1) := by decide +kernel
theorem dX6_generationOf_12 : decode cX6_generationOf 12 = .ok (.iconst 0, 1) := by decide +kernel
theorem dX6_generationOf_13 : decode cX6_generationOf 13 = .ok (.iconst 5, 1) := by decide +kernel
theorem dX6_generationOf_14 : decode cX6_generationOf 14 = .ok (.invokestatic 80, 3) := by decide +kernel
theorem dX6_generationOf_17 : decode cX6_generationOf 17 = .ok (.ifCond .ne 6, 3) := by decide +kernel
theorem dX6_generationOf_20 : decode cX6_generationOf 20 = .ok (.ldc 84, 2) := by decide +kernel
theorem dX6_generationOf_22 : decode cX6_generationOf 22 = .ok (.ireturn, 1) := by decide +kernel
theorem dX6_generationOf_23 : decode cX6_generationOf 23 = .ok (.aload_n 0, 1) := by decide +kernel
theorem dX6_generationOf_24 : decode cX6_generationOf 24 = .ok (.getfield 15, 3) := by decide +kernel
theorem dX6_generationOf_27 : decode cX6_generationOf 27 = .ok (.iload_n 1, 1) := by decide +kernel
theorem dX6_generationOf_28 : decode cX6_generationOf 28 = .ok (.iload_n 2, 1) := by decide +kernel
theorem dX6_generationOf_29 : decode cX6_generationOf 29 = .ok (.invokevirtual 91, 3) := by decide +kernel
theorem dX6_generationOf_32 : decode cX6_generationOf 32 = .ok (.ireturn, 1) := by decide +kernel
set_option maxRecDepth 20000 in
theorem ggX6_ancestor_X4_hasParticle : GoodIn wsX6_ancestor wsX4_hasParticle := goodIn_r _ [7, 8, 9, 10, 11, 12, 13, 14, 15, 16, 17, 57, 58, 59, 60, 61, 62, 63, 64, 65, 66, 67, 68, 69, 70, 71] (by decide +kernel) (by decide +kernel)
set_option maxRecDepth 20000 in
theorem gX6_ancestor_X4_hasParticle : GoodIn wsX6_ancestor (wsV RX6 76 RX4 yX4_hasParticle wsX4_hasParticle) := goodIn_app (goodIn_of _ (by decide +kernel)) ggX6_ancestor_X4_hasParticle
set_option maxRecDepth 20000 in
theorem ggX6_ancestor_X4_hasGeneration : GoodIn wsX6_ancestor wsX4_hasGeneration := goodIn_r _ [21, 8, 22, 23, 24, 12, 25, 26, 15, 16, 17, 57, 58, 59, 60, 61, 62, 63, 64, 65, 66, 67, 68, 69, 70, 71] (by decide +kernel) (by decide +kernel)
set_option maxRecDepth 20000 in
theorem gX6_ancestor_X4_hasGeneration : GoodIn wsX6_ancestor (wsV RX6 88 RX4 yX4_hasGeneration wsX4_hasGeneration) := goodIn_app (goodIn_of _ (by decide +kernel)) ggX6_ancestor_X4_hasGeneration
set_option maxRecDepth 20000 in
theorem ggX6_ancestor_X6_isWithin : GoodIn wsX6_ancestor wsX6_isWithin := goodIn_r _ [17] (by decide +kernel) (by decide +kernel)
set_option maxRecDepth 20000 in
theorem gX6_ancestor_X6_isWithin : GoodIn wsX6_ancestor (va_wsS RX6 80 yX6_isWithin wsX6_isWithin) := goodIn_app (goodIn_of _ (by decide +kernel)) ggX6_ancestor_X6_isWithin
set_option maxRecDepth 20000 in
theorem ggX6_ancestor_X4_tellOfAncestor : GoodIn wsX6_ancestor wsX4_tellOfAncestor := goodIn_r _ [31, 8, 32, 33, 34, 12, 35, 36, 37, 23, 24, 25, 26, 38, 39, 40, 41, 42, 43, 44, 45, 46, 47, 48, 57, 58, 59, 60, 61, 62, 63, 64, 65, 66, 67, 68, 69, 70, 71, 72] (by decide +kernel) (by decide +kernel)
set_option maxRecDepth 20000 in
theorem gX6_ancestor_X4_tellOfAncestor : GoodIn wsX6_ancestor (wsV RX6 94 RX4 yX4_tellOfAncestor wsX4_tellOfAncestor) := goodIn_app (goodIn_of _ (by decide +kernel)) ggX6_ancestor_X4_tellOfAncestor
theorem dX6_ancestor_0 : decode cX6_ancestor 0 = .ok (.aload_n 0, 1) := by decide +kernel
theorem dX6_ancestor_1 : decode cX6_ancestor 1 = .ok (.getfield 15, 3) := by decide +kernel
theorem dX6_ancestor_4 : decode cX6_ancestor 4 = .ok (.iload_n 1, 1) := by decide +kernel
theorem dX6_ancestor_5 : decode cX6_ancestor 5 = .ok (.invokevirtual 76, 3) := by decide +kernel
theorem dX6_ancestor_8 : decode cX6_ancestor 8 = .ok (.ifCond .eq 23, 3) := by decide +kernel
theorem dX6_ancestor_11 : decode cX6_ancestor 11 = .ok (.aload_n 0, 1) := by decide +kernel
theorem dX6_ancestor_12 : decode cX6_ancestor 12 = .ok (.getfield 15, 3) := by decide +kernel
theorem dX6_ancestor_15 : decode cX6_ancestor 15 = .ok (.iload_n 2, 1) := by decide +kernel
theorem dX6_ancestor_16 : decode cX6_ancestor 16 = .ok (.invokevirtual 88, 3) := by decide +kernel
theorem dX6_ancestor_19 : decode cX6_ancestor 19 = .ok (.ifCond .eq 12, 3) := by decide +kernel
theorem dX6_ancestor_22 : decode cX6_ancestor 22 = .ok (.iload_n 3, 1) := by decide +kernel
theorem dX6_ancestor_23 : decode cX6_ancestor 23 = .ok (.iconst 0, 1) := by decide +kernel
theorem dX6_ancestor_24 : decode cX6_ancestor 24 = .ok (.iconst 1, 1) := by decide +kernel
theorem dX6_ancestor_25 : decode cX6_ancestor 25 = .ok (.invokestatic 80, 3) := by decide +kernel
theorem dX6_ancestor_28 : decode cX6_ancestor 28 = .ok (.ifCond .ne 6, 3) := by decide +kernel
theorem dX6_ancestor_31 : decode cX6_ancestor 31 = .ok (.ldc 84, 2) := by decide +kernel
theorem dX6_ancestor_33 : decode cX6_ancestor 33 = .ok (.ireturn, 1) := by decide +kernel
theorem dX6_ancestor_34 : decode cX6_ancestor 34 = .ok (.aload_n 0, 1) := by decide +kernel
theorem dX6_ancestor_35 : decode cX6_ancestor 35 = .ok (.getfield 15, 3) := by decide +kernel
theorem dX6_ancestor_38 : decode cX6_ancestor 38 = .ok (.iload_n 1, 1) := by decide +kernel
theorem dX6_ancestor_39 : decode cX6_ancestor 39 = .ok (.iload_n 2, 1) := by decide +kernel
theorem dX6_ancestor_40 : decode cX6_ancestor 40 = .ok (.iload_n 3, 1) := by decide +kernel
theorem dX6_ancestor_41 : decode cX6_ancestor 41 = .ok (.invokevirtual 94, 3) := by decide +kernel
theorem dX6_ancestor_44 : decode cX6_ancestor 44 = .ok (.ireturn, 1) := by decide +kernel
set_option maxRecDepth 20000 in
theorem ggX6_common_X4_hasParticle : GoodIn wsX6_common wsX4_hasParticle := goodIn_r _ [7, 8, 9, 10, 11, 12, 13, 14, 15, 16, 17, 51, 52, 53, 54, 55, 56, 57, 58, 59, 60, 61, 62, 63, 64, 65] (by decide +kernel) (by decide +kernel)
set_option maxRecDepth 20000 in
theorem gX6_common_X4_hasParticle : GoodIn wsX6_common (wsV RX6 76 RX4 yX4_hasParticle wsX4_hasParticle) := goodIn_app (goodIn_of _ (by decide +kernel)) ggX6_common_X4_hasParticle
set_option maxRecDepth 20000 in
theorem ggX6_common_X4_meetingOfTwo : GoodIn wsX6_common wsX4_meetingOfTwo := goodIn_r _ [21, 8, 22, 23, 24, 12, 25, 26, 27, 28, 29, 30, 31, 32, 33, 34, 35, 36, 37, 38, 39, 40, 41, 42, 51, 52, 53, 54, 55, 56, 57, 58, 59, 60, 61, 62, 63, 64, 65, 66] (by decide +kernel) (by decide +kernel)
set_option maxRecDepth 20000 in
theorem gX6_common_X4_meetingOfTwo : GoodIn wsX6_common (wsV RX6 97 RX4 yX4_meetingOfTwo wsX4_meetingOfTwo) := goodIn_app (goodIn_of _ (by decide +kernel)) ggX6_common_X4_meetingOfTwo
theorem dX6_common_0 : decode cX6_common 0 = .ok (.aload_n 0, 1) := by decide +kernel
theorem dX6_common_1 : decode cX6_common 1 = .ok (.getfield 15, 3) := by decide +kernel
theorem dX6_common_4 : decode cX6_common 4 = .ok (.iload_n 1, 1) := by decide +kernel
theorem dX6_common_5 : decode cX6_common 5 = .ok (.invokevirtual 76, 3) := by decide +kernel
theorem dX6_common_8 : decode cX6_common 8 = .ok (.ifCond .eq 14, 3) := by decide +kernel
theorem dX6_common_11 : decode cX6_common 11 = .ok (.aload_n 0, 1) := by decide +kernel
theorem dX6_common_12 : decode cX6_common 12 = .ok (.getfield 15, 3) := by decide +kernel
theorem dX6_common_15 : decode cX6_common 15 = .ok (.iload_n 2, 1) := by decide +kernel
theorem dX6_common_16 : decode cX6_common 16 = .ok (.invokevirtual 76, 3) := by decide +kernel
theorem dX6_common_19 : decode cX6_common 19 = .ok (.ifCond .ne 6, 3) := by decide +kernel
theorem dX6_common_22 : decode cX6_common 22 = .ok (.ldc 84, 2) := by decide +kernel
theorem dX6_common_24 : decode cX6_common 24 = .ok (.ireturn, 1) := by decide +kernel
theorem dX6_common_25 : decode cX6_common 25 = .ok (.aload_n 0, 1) := by decide +kernel
theorem dX6_common_26 : decode cX6_common 26 = .ok (.getfield 15, 3) := by decide +kernel
theorem dX6_common_29 : decode cX6_common 29 = .ok (.iload_n 1, 1) := by decide +kernel
theorem dX6_common_30 : decode cX6_common 30 = .ok (.iload_n 2, 1) := by decide +kernel
theorem dX6_common_31 : decode cX6_common 31 = .ok (.invokevirtual 97, 3) := by decide +kernel
theorem dX6_common_34 : decode cX6_common 34 = .ok (.ireturn, 1) := by decide +kernel
set_option maxRecDepth 20000 in
theorem ggX6_root_X4_meetingOfAll : GoodIn wsX6_root wsX4_meetingOfAll := goodIn_r _ [6, 7, 8, 9, 10, 11, 12, 13, 14, 15, 16, 17, 18, 19, 20, 21, 22, 23, 24, 25, 26, 27, 28, 29, 30, 31, 32, 33, 34, 35, 36, 37, 38, 39, 48, 49, 50, 51, 52, 53, 54, 55, 56, 57, 58, 59, 60, 61, 62, 63] (by decide +kernel) (by decide +kernel)
set_option maxRecDepth 20000 in
theorem gX6_root_X4_meetingOfAll : GoodIn wsX6_root (wsV RX6 100 RX4 yX4_meetingOfAll wsX4_meetingOfAll) := goodIn_app (goodIn_of _ (by decide +kernel)) ggX6_root_X4_meetingOfAll
theorem dX6_root_0 : decode cX6_root 0 = .ok (.aload_n 0, 1) := by decide +kernel
theorem dX6_root_1 : decode cX6_root 1 = .ok (.getfield 15, 3) := by decide +kernel
theorem dX6_root_4 : decode cX6_root 4 = .ok (.invokevirtual 100, 3) := by decide +kernel
theorem dX6_root_7 : decode cX6_root 7 = .ok (.ireturn, 1) := by decide +kernel
set_option maxRecDepth 20000 in
theorem ggX6_mean_X4_hasGeneration : GoodIn wsX6_mean wsX4_hasGeneration := goodIn_r _ [7, 8, 9, 10, 11, 12, 13, 14, 15, 16, 17, 70, 71, 72, 73, 74, 75, 76, 77, 78, 79, 80, 81, 82, 83, 84] (by decide +kernel) (by decide +kernel)
set_option maxRecDepth 20000 in
theorem gX6_mean_X4_hasGeneration : GoodIn wsX6_mean (wsV RX6 88 RX4 yX4_hasGeneration wsX4_hasGeneration) := goodIn_app (goodIn_of _ (by decide +kernel)) ggX6_mean_X4_hasGeneration
set_option maxRecDepth 20000 in
theorem ggX6_mean_X6_isWithin : GoodIn wsX6_mean wsX6_isWithin := goodIn_r _ [17] (by decide +kernel) (by decide +kernel)
set_option maxRecDepth 20000 in
theorem gX6_mean_X6_isWithin : GoodIn wsX6_mean (va_wsS RX6 80 yX6_isWithin wsX6_isWithin) := goodIn_app (goodIn_of _ (by decide +kernel)) ggX6_mean_X6_isWithin
set_option maxRecDepth 20000 in
theorem ggX6_mean_X4_partOfMean : GoodIn wsX6_mean wsX4_partOfMean := goodIn_r _ [22, 8, 23, 24, 25, 26, 12, 27, 28, 29, 30, 31, 32, 33, 34, 10, 11, 13, 14, 35, 36, 37, 38, 39, 40, 41, 42, 43, 44, 45, 46, 47, 48, 49, 50, 51, 52, 53, 54, 55, 56, 57, 16, 58, 59, 60, 61, 70, 71, 72, 73, 74, 75, 76, 77, 78, 79, 80, 81, 82, 83, 84, 85, 86, 87] (by decide +kernel) (by decide +kernel)
set_option maxRecDepth 20000 in
theorem gX6_mean_X4_partOfMean : GoodIn wsX6_mean (wsV RX6 103 RX4 yX4_partOfMean wsX4_partOfMean) := goodIn_app (goodIn_of _ (by decide +kernel)) ggX6_mean_X4_partOfMean
theorem dX6_mean_0 : decode cX6_mean 0 = .ok (.aload_n 0, 1) := by decide +kernel
theorem dX6_mean_1 : decode cX6_mean 1 = .ok (.getfield 15, 3) := by decide +kernel
theorem dX6_mean_4 : decode cX6_mean 4 = .ok (.iload_n 1, 1) := by decide +kernel
theorem dX6_mean_5 : decode cX6_mean 5 = .ok (.invokevirtual 88, 3) := by decide +kernel
theorem dX6_mean_8 : decode cX6_mean 8 = .ok (.ifCond .eq 12, 3) := by decide +kernel
theorem dX6_mean_11 : decode cX6_mean 11 = .ok (.iload_n 2, 1) := by decide +kernel
theorem dX6_mean_12 : decode cX6_mean 12 = .ok (.iconst 0, 1) := by decide +kernel
theorem dX6_mean_13 : decode cX6_mean 13 = .ok (.iconst 1, 1) := by decide +kernel
theorem dX6_mean_14 : decode cX6_mean 14 = .ok (.invokestatic 80, 3) := by decide +kernel
theorem dX6_mean_17 : decode cX6_mean 17 = .ok (.ifCond .ne 6, 3) := by decide +kernel
theorem dX6_mean_20 : decode cX6_mean 20 = .ok (.ldc 84, 2) := by decide +kernel
theorem dX6_mean_22 : decode cX6_mean 22 = .ok (.ireturn, 1) := by decide +kernel
theorem dX6_mean_23 : decode cX6_mean 23 = .ok (.aload_n 0, 1) := by decide +kernel
theorem dX6_mean_24 : decode cX6_mean 24 = .ok (.getfield 15, 3) := by decide +kernel
theorem dX6_mean_27 : decode cX6_mean 27 = .ok (.iload_n 1, 1) := by decide +kernel
theorem dX6_mean_28 : decode cX6_mean 28 = .ok (.iload_n 2, 1) := by decide +kernel
theorem dX6_mean_29 : decode cX6_mean 29 = .ok (.invokevirtual 103, 3) := by decide +kernel
theorem dX6_mean_32 : decode cX6_mean 32 = .ok (.ireturn, 1) := by decide +kernel
set_option maxRecDepth 20000 in
theorem ggX6_share_X4_hasGeneration : GoodIn wsX6_share wsX4_hasGeneration := goodIn_r _ [7, 8, 9, 10, 11, 12, 13, 14, 15, 16, 17, 70, 71, 72, 73, 74, 75, 76, 77, 78, 79, 80, 81, 82, 83, 84] (by decide +kernel) (by decide +kernel)
set_option maxRecDepth 20000 in
theorem gX6_share_X4_hasGeneration : GoodIn wsX6_share (wsV RX6 88 RX4 yX4_hasGeneration wsX4_hasGeneration) := goodIn_app (goodIn_of _ (by decide +kernel)) ggX6_share_X4_hasGeneration
set_option maxRecDepth 20000 in
theorem ggX6_share_X6_isWithin : GoodIn wsX6_share wsX6_isWithin := goodIn_r _ [17] (by decide +kernel) (by decide +kernel)
set_option maxRecDepth 20000 in
theorem gX6_share_X6_isWithin : GoodIn wsX6_share (va_wsS RX6 80 yX6_isWithin wsX6_isWithin) := goodIn_app (goodIn_of _ (by decide +kernel)) ggX6_share_X6_isWithin
set_option maxRecDepth 20000 in
theorem ggX6_share_X4_partOfShare : GoodIn wsX6_share wsX4_partOfShare := goodIn_r _ [22, 8, 23, 24, 25, 26, 12, 27, 28, 29, 30, 31, 32, 33, 34, 10, 11, 13, 14, 35, 36, 37, 38, 39, 40, 41, 42, 43, 44, 45, 15, 16, 17, 46, 47, 48, 49, 50, 51, 52, 53, 54, 55, 56, 57, 58, 59, 60, 61, 70, 71, 72, 73, 74, 75, 76, 77, 78, 79, 80, 81, 82, 83, 84, 85, 86, 87] (by decide +kernel) (by decide +kernel)
set_option maxRecDepth 20000 in
theorem gX6_share_X4_partOfShare : GoodIn wsX6_share (wsV RX6 106 RX4 yX4_partOfShare wsX4_partOfShare) := goodIn_app (goodIn_of _ (by decide +kernel)) ggX6_share_X4_partOfShare
theorem dX6_share_0 : decode cX6_share 0 = .ok (.aload_n 0, 1) := by decide +kernel
theorem dX6_share_1 : decode cX6_share 1 = .ok (.getfield 15, 3) := by decide +kernel
theorem dX6_share_4 : decode cX6_share 4 = .ok (.iload_n 1, 1) := by decide +kernel
theorem dX6_share_5 : decode cX6_share 5 = .ok (.invokevirtual 88, 3) := by decide +kernel
theorem dX6_share_8 : decode cX6_share 8 = .ok (.ifCond .eq 33, 3) := by decide +kernel
theorem dX6_share_11 : decode cX6_share 11 = .ok (.iload_n 2, 1) := by decide +kernel
theorem dX6_share_12 : decode cX6_share 12 = .ok (.iconst 0, 1) := by decide +kernel
theorem dX6_share_13 : decode cX6_share 13 = .ok (.bipush 99, 2) := by decide +kernel
theorem dX6_share_15 : decode cX6_share 15 = .ok (.invokestatic 80, 3) := by decide +kernel
theorem dX6_share_18 : decode cX6_share 18 = .ok (.ifCond .eq 23, 3) := by decide +kernel
theorem dX6_share_21 : decode cX6_share 21 = .ok (.iload_n 3, 1) := by decide +kernel
theorem dX6_share_22 : decode cX6_share 22 = .ok (.iconst 0, 1) := by decide +kernel
theorem dX6_share_23 : decode cX6_share 23 = .ok (.bipush 99, 2) := by decide +kernel
theorem dX6_share_25 : decode cX6_share 25 = .ok (.invokestatic 80, 3) := by decide +kernel
theorem dX6_share_28 : decode cX6_share 28 = .ok (.ifCond .eq 13, 3) := by decide +kernel
theorem dX6_share_31 : decode cX6_share 31 = .ok (.iload 4, 2) := by decide +kernel
theorem dX6_share_33 : decode cX6_share 33 = .ok (.iconst 0, 1) := by decide +kernel
theorem dX6_share_34 : decode cX6_share 34 = .ok (.iconst 1, 1) := by decide +kernel
theorem dX6_share_35 : decode cX6_share 35 = .ok (.invokestatic 80, 3) := by decide +kernel
theorem dX6_share_38 : decode cX6_share 38 = .ok (.ifCond .ne 6, 3) := by decide +kernel
theorem dX6_share_41 : decode cX6_share 41 = .ok (.ldc 84, 2) := by decide +kernel
theorem dX6_share_43 : decode cX6_share 43 = .ok (.ireturn, 1) := by decide +kernel
theorem dX6_share_44 : decode cX6_share 44 = .ok (.aload_n 0, 1) := by decide +kernel
theorem dX6_share_45 : decode cX6_share 45 = .ok (.getfield 15, 3) := by decide +kernel
theorem dX6_share_48 : decode cX6_share 48 = .ok (.iload_n 1, 1) := by decide +kernel
theorem dX6_share_49 : decode cX6_share 49 = .ok (.iload_n 2, 1) := by decide +kernel
theorem dX6_share_50 : decode cX6_share 50 = .ok (.iload_n 3, 1) := by decide +kernel
theorem dX6_share_51 : decode cX6_share 51 = .ok (.iload 4, 2) := by decide +kernel
theorem dX6_share_53 : decode cX6_share 53 = .ok (.invokevirtual 106, 3) := by decide +kernel
theorem dX6_share_56 : decode cX6_share 56 = .ok (.ireturn, 1) := by decide +kernel
set_option maxRecDepth 20000 in
theorem ggX6_would_X6_isWithin : GoodIn wsX6_would wsX6_isWithin := goodIn_r _ [6] (by decide +kernel) (by decide +kernel)
set_option maxRecDepth 20000 in
theorem gX6_would_X6_isWithin : GoodIn wsX6_would (va_wsS RX6 80 yX6_isWithin wsX6_isWithin) := goodIn_app (goodIn_of _ (by decide +kernel)) ggX6_would_X6_isWithin
set_option maxRecDepth 20000 in
theorem ggX6_would_X4_hasParticle : GoodIn wsX6_would wsX4_hasParticle := goodIn_r _ [11, 12, 13, 14, 15, 16, 17, 18, 4, 5, 6, 88, 89, 90, 91, 92, 93, 94, 95, 96, 97, 98, 99, 100, 101, 102] (by decide +kernel) (by decide +kernel)
set_option maxRecDepth 20000 in
theorem gX6_would_X4_hasParticle : GoodIn wsX6_would (wsV RX6 76 RX4 yX4_hasParticle wsX4_hasParticle) := goodIn_app (goodIn_of _ (by decide +kernel)) ggX6_would_X4_hasParticle
set_option maxRecDepth 20000 in
theorem ggX6_would_X4_chosenBy : GoodIn wsX6_would wsX4_chosenBy := goodIn_r _ [22, 23, 24, 25, 26, 27, 28, 29, 30, 31, 32, 33, 34, 35, 36, 37, 38, 39, 40, 41, 42, 43, 44, 45, 46, 47, 48, 49, 50, 51, 52, 53, 54, 55, 56, 57, 58, 59, 60, 5, 61, 62, 63, 64, 65, 66, 67, 68, 69, 70, 71, 72, 73, 74, 75, 76, 77, 78, 79, 88, 89, 90, 91, 92, 93, 94, 103, 104, 105, 106, 107, 108] (by decide +kernel) (by decide +kernel)
set_option maxRecDepth 20000 in
theorem gX6_would_X4_chosenBy : GoodIn wsX6_would (wsV RX6 110 RX4 yX4_chosenBy wsX4_chosenBy) := goodIn_app (goodIn_of _ (by decide +kernel)) ggX6_would_X4_chosenBy
theorem dX6_would_0 : decode cX6_would 0 = .ok (.iload_n 1, 1) := by decide +kernel
theorem dX6_would_1 : decode cX6_would 1 = .ok (.iconst 0, 1) := by decide +kernel
theorem dX6_would_2 : decode cX6_would 2 = .ok (.iconst 2, 1) := by decide +kernel
theorem dX6_would_3 : decode cX6_would 3 = .ok (.invokestatic 80, 3) := by decide +kernel
theorem dX6_would_6 : decode cX6_would 6 = .ok (.ifCond .eq 14, 3) := by decide +kernel
theorem dX6_would_9 : decode cX6_would 9 = .ok (.aload_n 0, 1) := by decide +kernel
theorem dX6_would_10 : decode cX6_would 10 = .ok (.getfield 15, 3) := by decide +kernel
theorem dX6_would_13 : decode cX6_would 13 = .ok (.iload_n 2, 1) := by decide +kernel
theorem dX6_would_14 : decode cX6_would 14 = .ok (.invokevirtual 76, 3) := by decide +kernel
theorem dX6_would_17 : decode cX6_would 17 = .ok (.ifCond .ne 6, 3) := by decide +kernel
theorem dX6_would_20 : decode cX6_would 20 = .ok (.ldc 84, 2) := by decide +kernel
theorem dX6_would_22 : decode cX6_would 22 = .ok (.ireturn, 1) := by decide +kernel
theorem dX6_would_23 : decode cX6_would 23 = .ok (.aload_n 0, 1) := by decide +kernel
theorem dX6_would_24 : decode cX6_would 24 = .ok (.getfield 15, 3) := by decide +kernel
theorem dX6_would_27 : decode cX6_would 27 = .ok (.iload_n 1, 1) := by decide +kernel
theorem dX6_would_28 : decode cX6_would 28 = .ok (.iload_n 2, 1) := by decide +kernel
theorem dX6_would_29 : decode cX6_would 29 = .ok (.invokevirtual 110, 3) := by decide +kernel
theorem dX6_would_32 : decode cX6_would 32 = .ok (.ireturn, 1) := by decide +kernel
set_option maxRecDepth 20000 in
theorem ggX6_count_X3_length : GoodIn wsX6_count wsX3_length := goodIn_r _ [8, 9, 80, 81, 82, 83, 84, 85, 86, 87, 88, 89] (by decide +kernel) (by decide +kernel)
set_option maxRecDepth 20000 in
theorem gX6_count_X3_length : GoodIn wsX6_count (wsV RX6 113 RX3 yX3_length wsX3_length) := goodIn_app (goodIn_of _ (by decide +kernel)) ggX6_count_X3_length
set_option maxRecDepth 20000 in
theorem ggX6_count_X4_number : GoodIn wsX6_count wsX4_number := goodIn_r _ [14, 15, 16, 17, 18, 19, 20, 21, 22, 23, 24, 25, 26, 27, 28, 29, 30, 31, 32, 33, 34, 35, 36, 37, 38, 39, 40, 41, 42, 43, 44, 45, 46, 47, 48, 49, 50, 51, 52, 53, 54, 55, 56, 57, 58, 59, 60, 61, 62, 63, 64, 65, 66, 67, 68, 69, 70, 71, 90, 91, 92, 93, 94, 95, 96, 97, 98, 99, 100, 101, 102, 103, 104, 105, 106, 107] (by decide +kernel) (by decide +kernel)
set_option maxRecDepth 20000 in
theorem gX6_count_X4_number : GoodIn wsX6_count (wsV RX6 116 RX4 yX4_number wsX4_number) := goodIn_app (goodIn_of _ (by decide +kernel)) ggX6_count_X4_number
theorem dX6_count_0 : decode cX6_count 0 = .ok (.iload_n 1, 1) := by decide +kernel
theorem dX6_count_1 : decode cX6_count 1 = .ok (.bipush 9, 2) := by decide +kernel
theorem dX6_count_3 : decode cX6_count 3 = .ok (.if_icmp .ne 8, 3) := by decide +kernel
theorem dX6_count_6 : decode cX6_count 6 = .ok (.aload_n 0, 1) := by decide +kernel
theorem dX6_count_7 : decode cX6_count 7 = .ok (.getfield 36, 3) := by decide +kernel
theorem dX6_count_10 : decode cX6_count 10 = .ok (.ireturn, 1) := by decide +kernel
theorem dX6_count_11 : decode cX6_count 11 = .ok (.iload_n 1, 1) := by decide +kernel
theorem dX6_count_12 : decode cX6_count 12 = .ok (.bipush 10, 2) := by decide +kernel
theorem dX6_count_14 : decode cX6_count 14 = .ok (.if_icmp .ne 11, 3) := by decide +kernel
theorem dX6_count_17 : decode cX6_count 17 = .ok (.aload_n 0, 1) := by decide +kernel
theorem dX6_count_18 : decode cX6_count 18 = .ok (.getfield 43, 3) := by decide +kernel
theorem dX6_count_21 : decode cX6_count 21 = .ok (.invokevirtual 113, 3) := by decide +kernel
theorem dX6_count_24 : decode cX6_count 24 = .ok (.ireturn, 1) := by decide +kernel
theorem dX6_count_25 : decode cX6_count 25 = .ok (.aload_n 0, 1) := by decide +kernel
theorem dX6_count_26 : decode cX6_count 26 = .ok (.getfield 15, 3) := by decide +kernel
theorem dX6_count_29 : decode cX6_count 29 = .ok (.iload_n 1, 1) := by decide +kernel
theorem dX6_count_30 : decode cX6_count 30 = .ok (.invokevirtual 116, 3) := by decide +kernel
theorem dX6_count_33 : decode cX6_count 33 = .ok (.ireturn, 1) := by decide +kernel
theorem dX6_undo_0 : decode cX6_undo 0 = .ok (.aload_n 0, 1) := by decide +kernel
theorem dX6_undo_1 : decode cX6_undo 1 = .ok (.getfield 36, 3) := by decide +kernel
theorem dX6_undo_4 : decode cX6_undo 4 = .ok (.ifCond .gt 6, 3) := by decide +kernel
theorem dX6_undo_7 : decode cX6_undo 7 = .ok (.ldc 119, 2) := by decide +kernel
theorem dX6_undo_9 : decode cX6_undo 9 = .ok (.ireturn, 1) := by decide +kernel
theorem dX6_undo_10 : decode cX6_undo 10 = .ok (.aload_n 0, 1) := by decide +kernel
theorem dX6_undo_11 : decode cX6_undo 11 = .ok (.getfield 15, 3) := by decide +kernel
theorem dX6_undo_14 : decode cX6_undo 14 = .ok (.astore_n 1, 1) := by decide +kernel
theorem dX6_undo_15 : decode cX6_undo 15 = .ok (.aload_n 0, 1) := by decide +kernel
theorem dX6_undo_16 : decode cX6_undo 16 = .ok (.aload_n 0, 1) := by decide +kernel
theorem dX6_undo_17 : decode cX6_undo 17 = .ok (.getfield 24, 3) := by decide +kernel
theorem dX6_undo_20 : decode cX6_undo 20 = .ok (.putfield 15, 3) := by decide +kernel
theorem dX6_undo_23 : decode cX6_undo 23 = .ok (.aload_n 0, 1) := by decide +kernel
theorem dX6_undo_24 : decode cX6_undo 24 = .ok (.aload_n 0, 1) := by decide +kernel
theorem dX6_undo_25 : decode cX6_undo 25 = .ok (.getfield 27, 3) := by decide +kernel
theorem dX6_undo_28 : decode cX6_undo 28 = .ok (.putfield 24, 3) := by decide +kernel
theorem dX6_undo_31 : decode cX6_undo 31 = .ok (.aload_n 0, 1) := by decide +kernel
theorem dX6_undo_32 : decode cX6_undo 32 = .ok (.aload_n 0, 1) := by decide +kernel
theorem dX6_undo_33 : decode cX6_undo 33 = .ok (.getfield 30, 3) := by decide +kernel
theorem dX6_undo_36 : decode cX6_undo 36 = .ok (.putfield 27, 3) := by decide +kernel
theorem dX6_undo_39 : decode cX6_undo 39 = .ok (.aload_n 0, 1) := by decide +kernel
theorem dX6_undo_40 : decode cX6_undo 40 = .ok (.aload_n 0, 1) := by decide +kernel
theorem dX6_undo_41 : decode cX6_undo 41 = .ok (.getfield 33, 3) := by decide +kernel
theorem dX6_undo_44 : decode cX6_undo 44 = .ok (.putfield 30, 3) := by decide +kernel
theorem dX6_undo_47 : decode cX6_undo 47 = .ok (.aload_n 0, 1) := by decide +kernel
theorem dX6_undo_48 : decode cX6_undo 48 = .ok (.aload_n 1, 1) := by decide +kernel
theorem dX6_undo_49 : decode cX6_undo 49 = .ok (.putfield 33, 3) := by decide +kernel
theorem dX6_undo_52 : decode cX6_undo 52 = .ok (.aload_n 0, 1) := by decide +kernel
theorem dX6_undo_53 : decode cX6_undo 53 = .ok (.dup, 1) := by decide +kernel
theorem dX6_undo_54 : decode cX6_undo 54 = .ok (.getfield 36, 3) := by decide +kernel
theorem dX6_undo_57 : decode cX6_undo 57 = .ok (.iconst 1, 1) := by decide +kernel
theorem dX6_undo_58 : decode cX6_undo 58 = .ok (.isub, 1) := by decide +kernel
theorem dX6_undo_59 : decode cX6_undo 59 = .ok (.putfield 36, 3) := by decide +kernel
theorem dX6_undo_62 : decode cX6_undo 62 = .ok (.aload_n 0, 1) := by decide +kernel
theorem dX6_undo_63 : decode cX6_undo 63 = .ok (.getfield 36, 3) := by decide +kernel
theorem dX6_undo_66 : decode cX6_undo 66 = .ok (.ireturn, 1) := by decide +kernel
set_option maxRecDepth 20000 in
theorem ggX6_type_X6_isWithin : GoodIn wsX6_type wsX6_isWithin := goodIn_r _ [6] (by decide +kernel) (by decide +kernel)
set_option maxRecDepth 20000 in
theorem gX6_type_X6_isWithin : GoodIn wsX6_type (va_wsS RX6 80 yX6_isWithin wsX6_isWithin) := goodIn_app (goodIn_of _ (by decide +kernel)) ggX6_type_X6_isWithin
set_option maxRecDepth 20000 in
theorem ggX6_type_X3_append : GoodIn wsX6_type wsX3_append := goodIn_r _ [11, 12, 13, 14, 23, 24, 25, 26, 27, 28, 29, 30, 31, 32] (by decide +kernel) (by decide +kernel)
set_option maxRecDepth 20000 in
theorem gX6_type_X3_append : GoodIn wsX6_type (wsV RX6 120 RX3 yX3_append wsX3_append) := goodIn_app (goodIn_of _ (by decide +kernel)) ggX6_type_X3_append
theorem dX6_type_0 : decode cX6_type 0 = .ok (.iload_n 1, 1) := by decide +kernel
theorem dX6_type_1 : decode cX6_type 1 = .ok (.bipush 32, 2) := by decide +kernel
theorem dX6_type_3 : decode cX6_type 3 = .ok (.bipush 126, 2) := by decide +kernel
theorem dX6_type_5 : decode cX6_type 5 = .ok (.invokestatic 80, 3) := by decide +kernel
theorem dX6_type_8 : decode cX6_type 8 = .ok (.ifCond .ne 6, 3) := by decide +kernel
theorem dX6_type_11 : decode cX6_type 11 = .ok (.ldc 84, 2) := by decide +kernel
theorem dX6_type_13 : decode cX6_type 13 = .ok (.ireturn, 1) := by decide +kernel
theorem dX6_type_14 : decode cX6_type 14 = .ok (.aload_n 0, 1) := by decide +kernel
theorem dX6_type_15 : decode cX6_type 15 = .ok (.getfield 43, 3) := by decide +kernel
theorem dX6_type_18 : decode cX6_type 18 = .ok (.iload_n 1, 1) := by decide +kernel
theorem dX6_type_19 : decode cX6_type 19 = .ok (.invokevirtual 120, 3) := by decide +kernel
theorem dX6_type_22 : decode cX6_type 22 = .ok (.ireturn, 1) := by decide +kernel
set_option maxRecDepth 20000 in
theorem ggX6_clearText_X3_empty : GoodIn wsX6_clearText wsX3_empty := goodIn_r _ [6, 7, 16, 17, 18, 19, 20, 21, 22, 23, 24, 25] (by decide +kernel) (by decide +kernel)
set_option maxRecDepth 20000 in
theorem gX6_clearText_X3_empty : GoodIn wsX6_clearText (wsV RX6 123 RX3 yX3_empty wsX3_empty) := goodIn_app (goodIn_of _ (by decide +kernel)) ggX6_clearText_X3_empty
theorem dX6_clearText_0 : decode cX6_clearText 0 = .ok (.aload_n 0, 1) := by decide +kernel
theorem dX6_clearText_1 : decode cX6_clearText 1 = .ok (.getfield 43, 3) := by decide +kernel
theorem dX6_clearText_4 : decode cX6_clearText 4 = .ok (.invokevirtual 123, 3) := by decide +kernel
theorem dX6_clearText_7 : decode cX6_clearText 7 = .ok (.ireturn, 1) := by decide +kernel
set_option maxRecDepth 20000 in
theorem ggX6_fault_X6_isWithin : GoodIn wsX6_fault wsX6_isWithin := goodIn_r _ [9] (by decide +kernel) (by decide +kernel)
set_option maxRecDepth 20000 in
theorem gX6_fault_X6_isWithin : GoodIn wsX6_fault (va_wsS RX6 80 yX6_isWithin wsX6_isWithin) := goodIn_app (goodIn_of _ (by decide +kernel)) ggX6_fault_X6_isWithin
set_option maxRecDepth 20000 in
theorem ggX6_fault_X4_copyState : GoodIn wsX6_fault wsX4_copyState := goodIn_r _ [14, 15, 16, 17, 18, 19, 20, 21, 22, 23, 24, 25, 26, 27, 28, 29, 30, 31, 32, 33, 34, 35, 36, 37, 38, 39, 40, 41, 42, 43, 44, 45, 46, 47, 256, 257, 258, 259, 260, 261, 262, 263, 264, 265, 266, 267, 268, 269, 270, 271, 272, 273] (by decide +kernel) (by decide +kernel)
set_option maxRecDepth 20000 in
theorem gX6_fault_X4_copyState : GoodIn wsX6_fault (wsV RX6 47 RX4 yX4_copyState wsX4_copyState) := goodIn_app (goodIn_of _ (by decide +kernel)) ggX6_fault_X4_copyState
set_option maxRecDepth 20000 in
theorem ggX6_fault_X3_perform : GoodIn wsX6_fault wsX3_perform := goodIn_r _ [52, 53, 54, 55, 56, 57, 58, 59, 60, 61, 62, 63, 64, 51, 65, 66, 67, 68, 69, 70, 71, 72, 73, 74, 75, 76, 77, 78, 79, 80, 81, 82, 7, 8, 9, 83, 84, 85, 86, 87, 88, 89, 13, 90, 91, 15, 92, 18, 93, 94, 95, 24, 96, 33, 97, 98, 99, 100, 101, 102, 103, 104, 28, 29, 30, 105, 106, 107, 37, 108, 39, 109, 110, 111, 112, 32, 113, 114, 115, 116, 117, 118, 119, 26, 120, 121, 122, 123, 124, 125, 126, 127, 128, 129, 130, 131, 132, 133, 134, 135, 136, 27, 137, 138, 139, 140, 141, 142, 143, 144, 16, 145, 146, 147, 19, 17, 148, 149, 150, 43, 151, 46, 152, 153, 154, 155, 156, 157, 158, 159, 45, 160, 161, 162, 163, 164, 165, 166, 167, 168, 169, 170, 171, 172, 173, 174, 175, 176, 20, 177, 178, 179, 180, 181, 182, 183, 184, 185, 186, 187, 188, 189, 190, 191, 192, 193, 194, 195, 196, 197, 198, 199, 200, 201, 202, 203, 204, 205, 206, 207, 208, 209, 210, 211, 212, 213, 214, 31, 215, 216, 217, 218, 219, 220, 221, 222, 223, 224, 225, 226, 227, 228, 229, 230, 231, 232, 233, 234, 235, 236, 237, 238, 239, 240, 241, 242, 243, 274, 275, 276, 277, 278, 279, 280, 281, 282, 283, 256, 257, 258, 259, 260, 261, 262, 263, 264, 265, 266, 267, 268, 269, 270, 271, 272, 273, 284, 285, 286] (by decide +kernel) (by decide +kernel)
set_option maxRecDepth 20000 in
theorem gX6_fault_X3_perform : GoodIn wsX6_fault (wsV RX6 126 RX3 yX3_perform wsX3_perform) := goodIn_app (goodIn_of _ (by decide +kernel)) ggX6_fault_X3_perform
set_option maxRecDepth 20000 in
theorem ggX6_fault_X3_tellOfFault : GoodIn wsX6_fault wsX3_tellOfFault := goodIn_r _ [247, 56, 57, 58, 274, 275, 276, 277, 278, 279, 280, 281, 282, 283] (by decide +kernel) (by decide +kernel)
set_option maxRecDepth 20000 in
theorem gX6_fault_X3_tellOfFault : GoodIn wsX6_fault (wsV RX6 131 RX3 yX3_tellOfFault wsX3_tellOfFault) := goodIn_app (goodIn_of _ (by decide +kernel)) ggX6_fault_X3_tellOfFault
theorem dX6_fault_0 : decode cX6_fault 0 = .ok (.iload_n 1, 1) := by decide +kernel
theorem dX6_fault_1 : decode cX6_fault 1 = .ok (.iconst 0, 1) := by decide +kernel
theorem dX6_fault_2 : decode cX6_fault 2 = .ok (.iconst 2, 1) := by decide +kernel
theorem dX6_fault_3 : decode cX6_fault 3 = .ok (.invokestatic 80, 3) := by decide +kernel
theorem dX6_fault_6 : decode cX6_fault 6 = .ok (.ifCond .ne 6, 3) := by decide +kernel
theorem dX6_fault_9 : decode cX6_fault 9 = .ok (.ldc 84, 2) := by decide +kernel
theorem dX6_fault_11 : decode cX6_fault 11 = .ok (.ireturn, 1) := by decide +kernel
theorem dX6_fault_12 : decode cX6_fault 12 = .ok (.aload_n 0, 1) := by decide +kernel
theorem dX6_fault_13 : decode cX6_fault 13 = .ok (.getfield 21, 3) := by decide +kernel
theorem dX6_fault_16 : decode cX6_fault 16 = .ok (.aload_n 0, 1) := by decide +kernel
theorem dX6_fault_17 : decode cX6_fault 17 = .ok (.getfield 15, 3) := by decide +kernel
theorem dX6_fault_20 : decode cX6_fault 20 = .ok (.invokevirtual 47, 3) := by decide +kernel
theorem dX6_fault_23 : decode cX6_fault 23 = .ok (.aload_n 0, 1) := by decide +kernel
theorem dX6_fault_24 : decode cX6_fault 24 = .ok (.getfield 43, 3) := by decide +kernel
theorem dX6_fault_27 : decode cX6_fault 27 = .ok (.aload_n 0, 1) := by decide +kernel
theorem dX6_fault_28 : decode cX6_fault 28 = .ok (.getfield 21, 3) := by decide +kernel
theorem dX6_fault_31 : decode cX6_fault 31 = .ok (.invokevirtual 126, 3) := by decide +kernel
theorem dX6_fault_34 : decode cX6_fault 34 = .ok (.ifCond .eq 6, 3) := by decide +kernel
theorem dX6_fault_37 : decode cX6_fault 37 = .ok (.ldc 130, 2) := by decide +kernel
theorem dX6_fault_39 : decode cX6_fault 39 = .ok (.ireturn, 1) := by decide +kernel
theorem dX6_fault_40 : decode cX6_fault 40 = .ok (.aload_n 0, 1) := by decide +kernel
theorem dX6_fault_41 : decode cX6_fault 41 = .ok (.getfield 43, 3) := by decide +kernel
theorem dX6_fault_44 : decode cX6_fault 44 = .ok (.iload_n 1, 1) := by decide +kernel
theorem dX6_fault_45 : decode cX6_fault 45 = .ok (.invokevirtual 131, 3) := by decide +kernel
theorem dX6_fault_48 : decode cX6_fault 48 = .ok (.ireturn, 1) := by decide +kernel
set_option maxRecDepth 20000 in
theorem ggX6_play_X4_copyState : GoodIn wsX6_play wsX4_copyState := goodIn_r _ [9, 10, 11, 12, 13, 14, 15, 16, 17, 18, 19, 20, 21, 22, 23, 24, 25, 26, 27, 28, 29, 30, 31, 32, 33, 34, 35, 36, 37, 38, 39, 40, 41, 42, 263, 264, 265, 266, 267, 268, 269, 270, 271, 272, 273, 274, 275, 276, 277, 278, 279, 280] (by decide +kernel) (by decide +kernel)
set_option maxRecDepth 20000 in
theorem gX6_play_X4_copyState : GoodIn wsX6_play (wsV RX6 47 RX4 yX4_copyState wsX4_copyState) := goodIn_app (goodIn_of _ (by decide +kernel)) ggX6_play_X4_copyState
set_option maxRecDepth 20000 in
theorem ggX6_play_X3_perform : GoodIn wsX6_play wsX3_perform := goodIn_r _ [47, 48, 49, 50, 51, 52, 53, 54, 55, 56, 57, 58, 59, 46, 60, 61, 62, 63, 64, 65, 66, 67, 68, 69, 70, 71, 72, 73, 74, 75, 76, 77, 78, 79, 80, 81, 82, 83, 84, 85, 86, 87, 8, 88, 89, 10, 90, 13, 91, 92, 93, 19, 94, 28, 95, 96, 97, 98, 99, 100, 101, 102, 23, 24, 25, 103, 104, 105, 32, 106, 34, 107, 108, 109, 110, 27, 111, 112, 113, 114, 115, 116, 117, 21, 118, 119, 120, 121, 122, 123, 124, 125, 126, 127, 128, 129, 130, 131, 132, 133, 134, 22, 135, 136, 137, 138, 139, 140, 141, 142, 11, 143, 144, 145, 14, 12, 146, 147, 148, 38, 149, 41, 150, 151, 152, 153, 154, 155, 156, 157, 40, 158, 159, 160, 161, 162, 163, 164, 165, 166, 167, 168, 169, 170, 171, 172, 173, 174, 15, 175, 176, 177, 178, 179, 180, 181, 182, 183, 184, 185, 186, 187, 188, 189, 190, 191, 192, 193, 194, 195, 196, 197, 198, 199, 200, 201, 202, 203, 204, 205, 206, 207, 208, 209, 210, 211, 212, 26, 213, 214, 215, 216, 217, 218, 219, 220, 221, 222, 223, 224, 225, 226, 227, 228, 229, 230, 231, 232, 233, 234, 235, 236, 237, 238, 239, 240, 241, 281, 282, 283, 284, 285, 286, 287, 288, 289, 290, 263, 264, 265, 266, 267, 268, 269, 270, 271, 272, 273, 274, 275, 276, 277, 278, 279, 280, 291, 292, 293] (by decide +kernel) (by decide +kernel)
set_option maxRecDepth 20000 in
theorem gX6_play_X3_perform : GoodIn wsX6_play (wsV RX6 126 RX3 yX3_perform wsX3_perform) := goodIn_app (goodIn_of _ (by decide +kernel)) ggX6_play_X3_perform
set_option maxRecDepth 20000 in
theorem ggX6_play_X3_ordersDone : GoodIn wsX6_play wsX3_ordersDone := goodIn_r _ [245, 49, 281, 282, 283, 284, 285, 286, 287, 288, 289, 290] (by decide +kernel) (by decide +kernel)
set_option maxRecDepth 20000 in
theorem gX6_play_X3_ordersDone : GoodIn wsX6_play (wsV RX6 134 RX3 yX3_ordersDone wsX3_ordersDone) := goodIn_app (goodIn_of _ (by decide +kernel)) ggX6_play_X3_ordersDone
set_option maxRecDepth 20000 in
theorem ggX6_play_X6_keepDraftUnlessError : GoodIn wsX6_play wsX6_keepDraftUnlessError := goodIn_r _ [249, 250, 251, 252, 253, 2, 1, 254, 124, 125, 126, 127, 255, 256, 257, 258, 259, 260, 261, 262] (by decide +kernel) (by decide +kernel)
set_option maxRecDepth 20000 in
theorem gX6_play_X6_keepDraftUnlessError : GoodIn wsX6_play (wsV RX6 55 RX6 yX6_keepDraftUnlessError wsX6_keepDraftUnlessError) := goodIn_app (goodIn_of _ (by decide +kernel)) ggX6_play_X6_keepDraftUnlessError
theorem dX6_play_0 : decode cX6_play 0 = .ok (.aload_n 0, 1) := by decide +kernel
theorem dX6_play_1 : decode cX6_play 1 = .ok (.getfield 21, 3) := by decide +kernel
theorem dX6_play_4 : decode cX6_play 4 = .ok (.aload_n 0, 1) := by decide +kernel
theorem dX6_play_5 : decode cX6_play 5 = .ok (.getfield 15, 3) := by decide +kernel
theorem dX6_play_8 : decode cX6_play 8 = .ok (.invokevirtual 47, 3) := by decide +kernel
theorem dX6_play_11 : decode cX6_play 11 = .ok (.aload_n 0, 1) := by decide +kernel
theorem dX6_play_12 : decode cX6_play 12 = .ok (.getfield 43, 3) := by decide +kernel
theorem dX6_play_15 : decode cX6_play 15 = .ok (.aload_n 0, 1) := by decide +kernel
theorem dX6_play_16 : decode cX6_play 16 = .ok (.getfield 21, 3) := by decide +kernel
theorem dX6_play_19 : decode cX6_play 19 = .ok (.invokevirtual 126, 3) := by decide +kernel
theorem dX6_play_22 : decode cX6_play 22 = .ok (.ifCond .ne 6, 3) := by decide +kernel
theorem dX6_play_25 : decode cX6_play 25 = .ok (.ldc 119, 2) := by decide +kernel
theorem dX6_play_27 : decode cX6_play 27 = .ok (.ireturn, 1) := by decide +kernel
theorem dX6_play_28 : decode cX6_play 28 = .ok (.aload_n 0, 1) := by decide +kernel
theorem dX6_play_29 : decode cX6_play 29 = .ok (.aload_n 0, 1) := by decide +kernel
theorem dX6_play_30 : decode cX6_play 30 = .ok (.getfield 43, 3) := by decide +kernel
theorem dX6_play_33 : decode cX6_play 33 = .ok (.invokevirtual 134, 3) := by decide +kernel
theorem dX6_play_36 : decode cX6_play 36 = .ok (.invokevirtual 55, 3) := by decide +kernel
theorem dX6_play_39 : decode cX6_play 39 = .ok (.ireturn, 1) := by decide +kernel
theorem dX6_keepDraftUnlessError_0 : decode cX6_keepDraftUnlessError 0 = .ok (.iload_n 1, 1) := by decide +kernel
theorem dX6_keepDraftUnlessError_1 : decode cX6_keepDraftUnlessError 1 = .ok (.ifCond .ge 5, 3) := by decide +kernel
theorem dX6_keepDraftUnlessError_4 : decode cX6_keepDraftUnlessError 4 = .ok (.iload_n 1, 1) := by decide +kernel
theorem dX6_keepDraftUnlessError_5 : decode cX6_keepDraftUnlessError 5 = .ok (.ireturn, 1) := by decide +kernel
theorem dX6_keepDraftUnlessError_6 : decode cX6_keepDraftUnlessError 6 = .ok (.aload_n 0, 1) := by decide +kernel
theorem dX6_keepDraftUnlessError_7 : decode cX6_keepDraftUnlessError 7 = .ok (.getfield 33, 3) := by decide +kernel
theorem dX6_keepDraftUnlessError_10 : decode cX6_keepDraftUnlessError 10 = .ok (.astore_n 2, 1) := by decide +kernel
theorem dX6_keepDraftUnlessError_11 : decode cX6_keepDraftUnlessError 11 = .ok (.aload_n 0, 1) := by decide +kernel
theorem dX6_keepDraftUnlessError_12 : decode cX6_keepDraftUnlessError 12 = .ok (.aload_n 0, 1) := by decide +kernel
theorem dX6_keepDraftUnlessError_13 : decode cX6_keepDraftUnlessError 13 = .ok (.getfield 30, 3) := by decide +kernel
theorem dX6_keepDraftUnlessError_16 : decode cX6_keepDraftUnlessError 16 = .ok (.putfield 33, 3) := by decide +kernel
theorem dX6_keepDraftUnlessError_19 : decode cX6_keepDraftUnlessError 19 = .ok (.aload_n 0, 1) := by decide +kernel
theorem dX6_keepDraftUnlessError_20 : decode cX6_keepDraftUnlessError 20 = .ok (.aload_n 0, 1) := by decide +kernel
theorem dX6_keepDraftUnlessError_21 : decode cX6_keepDraftUnlessError 21 = .ok (.getfield 27, 3) := by decide +kernel
theorem dX6_keepDraftUnlessError_24 : decode cX6_keepDraftUnlessError 24 = .ok (.putfield 30, 3) := by decide +kernel
theorem dX6_keepDraftUnlessError_27 : decode cX6_keepDraftUnlessError 27 = .ok (.aload_n 0, 1) := by decide +kernel
theorem dX6_keepDraftUnlessError_28 : decode cX6_keepDraftUnlessError 28 = .ok (.aload_n 0, 1) := by decide +kernel
theorem dX6_keepDraftUnlessError_29 : decode cX6_keepDraftUnlessError 29 = .ok (.getfield 24, 3) := by decide +kernel
theorem dX6_keepDraftUnlessError_32 : decode cX6_keepDraftUnlessError 32 = .ok (.putfield 27, 3) := by decide +kernel
theorem dX6_keepDraftUnlessError_35 : decode cX6_keepDraftUnlessError 35 = .ok (.aload_n 0, 1) := by decide +kernel
theorem dX6_keepDraftUnlessError_36 : decode cX6_keepDraftUnlessError 36 = .ok (.aload_n 0, 1) := by decide +kernel
theorem dX6_keepDraftUnlessError_37 : decode cX6_keepDraftUnlessError 37 = .ok (.getfield 15, 3) := by decide +kernel
theorem dX6_keepDraftUnlessError_40 : decode cX6_keepDraftUnlessError 40 = .ok (.putfield 24, 3) := by decide +kernel
theorem dX6_keepDraftUnlessError_43 : decode cX6_keepDraftUnlessError 43 = .ok (.aload_n 0, 1) := by decide +kernel
theorem dX6_keepDraftUnlessError_44 : decode cX6_keepDraftUnlessError 44 = .ok (.aload_n 0, 1) := by decide +kernel
theorem dX6_keepDraftUnlessError_45 : decode cX6_keepDraftUnlessError 45 = .ok (.getfield 21, 3) := by decide +kernel
theorem dX6_keepDraftUnlessError_48 : decode cX6_keepDraftUnlessError 48 = .ok (.putfield 15, 3) := by decide +kernel
theorem dX6_keepDraftUnlessError_51 : decode cX6_keepDraftUnlessError 51 = .ok (.aload_n 0, 1) := by decide +kernel
theorem dX6_keepDraftUnlessError_52 : decode cX6_keepDraftUnlessError 52 = .ok (.aload_n 2, 1) := by decide +kernel
theorem dX6_keepDraftUnlessError_53 : decode cX6_keepDraftUnlessError 53 = .ok (.putfield 21, 3) := by decide +kernel
theorem dX6_keepDraftUnlessError_56 : decode cX6_keepDraftUnlessError 56 = .ok (.aload_n 0, 1) := by decide +kernel
theorem dX6_keepDraftUnlessError_57 : decode cX6_keepDraftUnlessError 57 = .ok (.aload_n 0, 1) := by decide +kernel
theorem dX6_keepDraftUnlessError_58 : decode cX6_keepDraftUnlessError 58 = .ok (.getfield 36, 3) := by decide +kernel
theorem dX6_keepDraftUnlessError_61 : decode cX6_keepDraftUnlessError 61 = .ok (.iconst 1, 1) := by decide +kernel
theorem dX6_keepDraftUnlessError_62 : decode cX6_keepDraftUnlessError 62 = .ok (.iadd, 1) := by decide +kernel
theorem dX6_keepDraftUnlessError_63 : decode cX6_keepDraftUnlessError 63 = .ok (.iconst 4, 1) := by decide +kernel
theorem dX6_keepDraftUnlessError_64 : decode cX6_keepDraftUnlessError 64 = .ok (.invokestatic 137, 3) := by decide +kernel
theorem dX6_keepDraftUnlessError_67 : decode cX6_keepDraftUnlessError 67 = .ok (.putfield 36, 3) := by decide +kernel
theorem dX6_keepDraftUnlessError_70 : decode cX6_keepDraftUnlessError 70 = .ok (.iload_n 1, 1) := by decide +kernel
theorem dX6_keepDraftUnlessError_71 : decode cX6_keepDraftUnlessError 71 = .ok (.ireturn, 1) := by decide +kernel
theorem dX6_isWithin_0 : decode cX6_isWithin 0 = .ok (.iload_n 0, 1) := by decide +kernel
theorem dX6_isWithin_1 : decode cX6_isWithin 1 = .ok (.iload_n 1, 1) := by decide +kernel
theorem dX6_isWithin_2 : decode cX6_isWithin 2 = .ok (.if_icmp .lt 12, 3) := by decide +kernel
theorem dX6_isWithin_5 : decode cX6_isWithin 5 = .ok (.iload_n 0, 1) := by decide +kernel
theorem dX6_isWithin_6 : decode cX6_isWithin 6 = .ok (.iload_n 2, 1) := by decide +kernel
theorem dX6_isWithin_7 : decode cX6_isWithin 7 = .ok (.if_icmp .gt 7, 3) := by decide +kernel
theorem dX6_isWithin_10 : decode cX6_isWithin 10 = .ok (.iconst 1, 1) := by decide +kernel
theorem dX6_isWithin_11 : decode cX6_isWithin 11 = .ok (.goto 4, 3) := by decide +kernel
theorem dX6_isWithin_14 : decode cX6_isWithin 14 = .ok (.iconst 0, 1) := by decide +kernel
theorem dX6_isWithin_15 : decode cX6_isWithin 15 = .ok (.ireturn, 1) := by decide +kernel
theorem dX6_nearestPlace_0 : decode cX6_nearestPlace 0 = .ok (.iconst 0, 1) := by decide +kernel
theorem dX6_nearestPlace_1 : decode cX6_nearestPlace 1 = .ok (.bipush 99, 2) := by decide +kernel
theorem dX6_nearestPlace_3 : decode cX6_nearestPlace 3 = .ok (.iload_n 0, 1) := by decide +kernel
theorem dX6_nearestPlace_4 : decode cX6_nearestPlace 4 = .ok (.invokestatic 137, 3) := by decide +kernel
theorem dX6_nearestPlace_7 : decode cX6_nearestPlace 7 = .ok (.invokestatic 142, 3) := by decide +kernel
theorem dX6_nearestPlace_10 : decode cX6_nearestPlace 10 = .ok (.ireturn, 1) := by decide +kernel
theorem dX6_noiseBehind_0 : decode cX6_noiseBehind 0 = .ok (.iload_n 0, 1) := by decide +kernel
theorem dX6_noiseBehind_1 : decode cX6_noiseBehind 1 = .ok (.bipush 75, 2) := by decide +kernel
theorem dX6_noiseBehind_3 : decode cX6_noiseBehind 3 = .ok (.imul, 1) := by decide +kernel
theorem dX6_noiseBehind_4 : decode cX6_noiseBehind 4 = .ok (.bipush 74, 2) := by decide +kernel
theorem dX6_noiseBehind_6 : decode cX6_noiseBehind 6 = .ok (.iadd, 1) := by decide +kernel
theorem dX6_noiseBehind_7 : decode cX6_noiseBehind 7 = .ok (.ldc 145, 2) := by decide +kernel
theorem dX6_noiseBehind_9 : decode cX6_noiseBehind 9 = .ok (.irem, 1) := by decide +kernel
theorem dX6_noiseBehind_10 : decode cX6_noiseBehind 10 = .ok (.ireturn, 1) := by decide +kernel
theorem dX6_commonDivisor_0 : decode cX6_commonDivisor 0 = .ok (.lload_n 0, 1) := by decide +kernel
theorem dX6_commonDivisor_1 : decode cX6_commonDivisor 1 = .ok (.lstore 4, 2) := by decide +kernel
theorem dX6_commonDivisor_3 : decode cX6_commonDivisor 3 = .ok (.lload_n 2, 1) := by decide +kernel
theorem dX6_commonDivisor_4 : decode cX6_commonDivisor 4 = .ok (.lstore 6, 2) := by decide +kernel
theorem dX6_commonDivisor_6 : decode cX6_commonDivisor 6 = .ok (.iconst 0, 1) := by decide +kernel
theorem dX6_commonDivisor_7 : decode cX6_commonDivisor 7 = .ok (.istore 8, 2) := by decide +kernel
theorem dX6_commonDivisor_9 : decode cX6_commonDivisor 9 = .ok (.iload 8, 2) := by decide +kernel
theorem dX6_commonDivisor_11 : decode cX6_commonDivisor 11 = .ok (.sipush 200, 3) := by decide +kernel
theorem dX6_commonDivisor_14 : decode cX6_commonDivisor 14 = .ok (.if_icmp .ge 31, 3) := by decide +kernel
theorem dX6_commonDivisor_17 : decode cX6_commonDivisor 17 = .ok (.lload 6, 2) := by decide +kernel
theorem dX6_commonDivisor_19 : decode cX6_commonDivisor 19 = .ok (.lconst 0, 1) := by decide +kernel
theorem dX6_commonDivisor_20 : decode cX6_commonDivisor 20 = .ok (.lcmp, 1) := by decide +kernel
theorem dX6_commonDivisor_21 : decode cX6_commonDivisor 21 = .ok (.ifCond .le 24, 3) := by decide +kernel
theorem dX6_commonDivisor_24 : decode cX6_commonDivisor 24 = .ok (.lload 4, 2) := by decide +kernel
theorem dX6_commonDivisor_26 : decode cX6_commonDivisor 26 = .ok (.lload 6, 2) := by decide +kernel
theorem dX6_commonDivisor_28 : decode cX6_commonDivisor 28 = .ok (.lrem, 1) := by decide +kernel
theorem dX6_commonDivisor_29 : decode cX6_commonDivisor 29 = .ok (.lstore 9, 2) := by decide +kernel
theorem dX6_commonDivisor_31 : decode cX6_commonDivisor 31 = .ok (.lload 6, 2) := by decide +kernel
theorem dX6_commonDivisor_33 : decode cX6_commonDivisor 33 = .ok (.lstore 4, 2) := by decide +kernel
theorem dX6_commonDivisor_35 : decode cX6_commonDivisor 35 = .ok (.lload 9, 2) := by decide +kernel
theorem dX6_commonDivisor_37 : decode cX6_commonDivisor 37 = .ok (.lstore 6, 2) := by decide +kernel
theorem dX6_commonDivisor_39 : decode cX6_commonDivisor 39 = .ok (.iinc 8 1, 3) := by decide +kernel
theorem dX6_commonDivisor_42 : decode cX6_commonDivisor 42 = .ok (.goto (-33), 3) := by decide +kernel
theorem dX6_commonDivisor_45 : decode cX6_commonDivisor 45 = .ok (.lload 4, 2) := by decide +kernel
theorem dX6_commonDivisor_47 : decode cX6_commonDivisor 47 = .ok (.lreturn, 1) := by decide +kernel
set_option maxRecDepth 20000 in
theorem ggX6_partInLowestTerms_X6_commonDivisor : GoodIn wsX6_partInLowestTerms wsX6_commonDivisor := goodIn_r _ [4] (by decide +kernel) (by decide +kernel)
set_option maxRecDepth 20000 in
theorem gX6_partInLowestTerms_X6_commonDivisor : GoodIn wsX6_partInLowestTerms (va_wsS RX6 146 yX6_commonDivisor wsX6_commonDivisor) := goodIn_app (goodIn_of _ (by decide +kernel)) ggX6_partInLowestTerms_X6_commonDivisor
theorem dX6_partInLowestTerms_0 : decode cX6_partInLowestTerms 0 = .ok (.lload_n 0, 1) := by decide +kernel
theorem dX6_partInLowestTerms_1 : decode cX6_partInLowestTerms 1 = .ok (.lload_n 2, 1) := by decide +kernel
theorem dX6_partInLowestTerms_2 : decode cX6_partInLowestTerms 2 = .ok (.invokestatic 146, 3) := by decide +kernel
theorem dX6_partInLowestTerms_5 : decode cX6_partInLowestTerms 5 = .ok (.lstore 5, 2) := by decide +kernel
theorem dX6_partInLowestTerms_7 : decode cX6_partInLowestTerms 7 = .ok (.lload 5, 2) := by decide +kernel
theorem dX6_partInLowestTerms_9 : decode cX6_partInLowestTerms 9 = .ok (.lconst 0, 1) := by decide +kernel
theorem dX6_partInLowestTerms_10 : decode cX6_partInLowestTerms 10 = .ok (.lcmp, 1) := by decide +kernel
theorem dX6_partInLowestTerms_11 : decode cX6_partInLowestTerms 11 = .ok (.ifCond .gt 5, 3) := by decide +kernel
theorem dX6_partInLowestTerms_14 : decode cX6_partInLowestTerms 14 = .ok (.iconst 0, 1) := by decide +kernel
theorem dX6_partInLowestTerms_15 : decode cX6_partInLowestTerms 15 = .ok (.ireturn, 1) := by decide +kernel
theorem dX6_partInLowestTerms_16 : decode cX6_partInLowestTerms 16 = .ok (.iload 4, 2) := by decide +kernel
theorem dX6_partInLowestTerms_18 : decode cX6_partInLowestTerms 18 = .ok (.ifCond .ne 7, 3) := by decide +kernel
theorem dX6_partInLowestTerms_21 : decode cX6_partInLowestTerms 21 = .ok (.lload_n 0, 1) := by decide +kernel
theorem dX6_partInLowestTerms_22 : decode cX6_partInLowestTerms 22 = .ok (.goto 4, 3) := by decide +kernel
theorem dX6_partInLowestTerms_25 : decode cX6_partInLowestTerms 25 = .ok (.lload_n 2, 1) := by decide +kernel
theorem dX6_partInLowestTerms_26 : decode cX6_partInLowestTerms 26 = .ok (.lload 5, 2) := by decide +kernel
theorem dX6_partInLowestTerms_28 : decode cX6_partInLowestTerms 28 = .ok (.ldiv, 1) := by decide +kernel
theorem dX6_partInLowestTerms_29 : decode cX6_partInLowestTerms 29 = .ok (.l2i, 1) := by decide +kernel
theorem dX6_partInLowestTerms_30 : decode cX6_partInLowestTerms 30 = .ok (.ireturn, 1) := by decide +kernel
set_option maxRecDepth 20000 in
theorem ggX7_init_X7_lays : GoodIn wsX7_init wsX7_lays := goodIn_r _ [19, 5, 20, 21, 22, 23, 24, 25, 26, 27, 28, 29, 30, 31, 32, 33, 34, 35, 36, 37, 38] (by decide +kernel) (by decide +kernel)
set_option maxRecDepth 20000 in
theorem gX7_init_X7_lays : GoodIn wsX7_init (wsV RX7 38 RX7 yX7_lays wsX7_lays) := goodIn_app (goodIn_of _ (by decide +kernel)) ggX7_init_X7_lays
theorem dX7_init_0 : decode cX7_init 0 = .ok (.aload_n 0, 1) := by decide +kernel
theorem dX7_init_1 : decode cX7_init 1 = .ok (.invokespecial 1, 3) := by decide +kernel
theorem dX7_init_4 : decode cX7_init 4 = .ok (.aload_n 0, 1) := by decide +kernel
theorem dX7_init_5 : decode cX7_init 5 = .ok (.sipush 580, 3) := by decide +kernel
theorem dX7_init_8 : decode cX7_init 8 = .ok (.newarray .int, 2) := by decide +kernel
theorem dX7_init_10 : decode cX7_init 10 = .ok (.putfield 7, 3) := by decide +kernel
theorem dX7_init_13 : decode cX7_init 13 = .ok (.aload_n 0, 1) := by decide +kernel
theorem dX7_init_14 : decode cX7_init 14 = .ok (.sipush 2320, 3) := by decide +kernel
theorem dX7_init_17 : decode cX7_init 17 = .ok (.newarray .int, 2) := by decide +kernel
theorem dX7_init_19 : decode cX7_init 19 = .ok (.putfield 13, 3) := by decide +kernel
theorem dX7_init_22 : decode cX7_init 22 = .ok (.aload_n 0, 1) := by decide +kernel
theorem dX7_init_23 : decode cX7_init 23 = .ok (.sipush 580, 3) := by decide +kernel
theorem dX7_init_26 : decode cX7_init 26 = .ok (.newarray .int, 2) := by decide +kernel
theorem dX7_init_28 : decode cX7_init 28 = .ok (.putfield 16, 3) := by decide +kernel
theorem dX7_init_31 : decode cX7_init 31 = .ok (.aload_n 0, 1) := by decide +kernel
theorem dX7_init_32 : decode cX7_init 32 = .ok (.bipush 60, 2) := by decide +kernel
theorem dX7_init_34 : decode cX7_init 34 = .ok (.newarray .int, 2) := by decide +kernel
theorem dX7_init_36 : decode cX7_init 36 = .ok (.putfield 19, 3) := by decide +kernel
theorem dX7_init_39 : decode cX7_init 39 = .ok (.aload_n 0, 1) := by decide +kernel
theorem dX7_init_40 : decode cX7_init 40 = .ok (.bipush 12, 2) := by decide +kernel
theorem dX7_init_42 : decode cX7_init 42 = .ok (.newarray .int, 2) := by decide +kernel
theorem dX7_init_44 : decode cX7_init 44 = .ok (.putfield 22, 3) := by decide +kernel
theorem dX7_init_47 : decode cX7_init 47 = .ok (.aload_n 0, 1) := by decide +kernel
theorem dX7_init_48 : decode cX7_init 48 = .ok (.bipush 12, 2) := by decide +kernel
theorem dX7_init_50 : decode cX7_init 50 = .ok (.newarray .int, 2) := by decide +kernel
theorem dX7_init_52 : decode cX7_init 52 = .ok (.putfield 25, 3) := by decide +kernel
theorem dX7_init_55 : decode cX7_init 55 = .ok (.aload_n 0, 1) := by decide +kernel
theorem dX7_init_56 : decode cX7_init 56 = .ok (.bipush 12, 2) := by decide +kernel
theorem dX7_init_58 : decode cX7_init 58 = .ok (.newarray .long, 2) := by decide +kernel
theorem dX7_init_60 : decode cX7_init 60 = .ok (.putfield 28, 3) := by decide +kernel
theorem dX7_init_63 : decode cX7_init 63 = .ok (.aload_n 0, 1) := by decide +kernel
theorem dX7_init_64 : decode cX7_init 64 = .ok (.bipush 12, 2) := by decide +kernel
theorem dX7_init_66 : decode cX7_init 66 = .ok (.newarray .int, 2) := by decide +kernel
theorem dX7_init_68 : decode cX7_init 68 = .ok (.putfield 32, 3) := by decide +kernel
theorem dX7_init_71 : decode cX7_init 71 = .ok (.aload_n 0, 1) := by decide +kernel
theorem dX7_init_72 : decode cX7_init 72 = .ok (.iconst 2, 1) := by decide +kernel
theorem dX7_init_73 : decode cX7_init 73 = .ok (.newarray .int, 2) := by decide +kernel
theorem dX7_init_75 : decode cX7_init 75 = .ok (.putfield 35, 3) := by decide +kernel
theorem dX7_init_78 : decode cX7_init 78 = .ok (.aload_n 0, 1) := by decide +kernel
theorem dX7_init_79 : decode cX7_init 79 = .ok (.getfield 7, 3) := by decide +kernel
theorem dX7_init_82 : decode cX7_init 82 = .ok (.iconst 5, 1) := by decide +kernel
theorem dX7_init_83 : decode cX7_init 83 = .ok (.iconst 3, 1) := by decide +kernel
theorem dX7_init_84 : decode cX7_init 84 = .ok (.iastore, 1) := by decide +kernel
theorem dX7_init_85 : decode cX7_init 85 = .ok (.aload_n 0, 1) := by decide +kernel
theorem dX7_init_86 : decode cX7_init 86 = .ok (.getfield 7, 3) := by decide +kernel
theorem dX7_init_89 : decode cX7_init 89 = .ok (.bipush 7, 2) := by decide +kernel
theorem dX7_init_91 : decode cX7_init 91 = .ok (.bipush 50, 2) := by decide +kernel
theorem dX7_init_93 : decode cX7_init 93 = .ok (.iastore, 1) := by decide +kernel
theorem dX7_init_94 : decode cX7_init 94 = .ok (.aload_n 0, 1) := by decide +kernel
theorem dX7_init_95 : decode cX7_init 95 = .ok (.iconst 4, 1) := by decide +kernel
theorem dX7_init_96 : decode cX7_init 96 = .ok (.iconst 0, 1) := by decide +kernel
theorem dX7_init_97 : decode cX7_init 97 = .ok (.bipush 10, 2) := by decide +kernel
theorem dX7_init_99 : decode cX7_init 99 = .ok (.invokevirtual 38, 3) := by decide +kernel
theorem dX7_init_102 : decode cX7_init 102 = .ok (.return_, 1) := by decide +kernel
theorem dX7_in_0 : decode cX7_in 0 = .ok (.iload_n 0, 1) := by decide +kernel
theorem dX7_in_1 : decode cX7_in 1 = .ok (.iload_n 1, 1) := by decide +kernel
theorem dX7_in_2 : decode cX7_in 2 = .ok (.if_icmp .lt 12, 3) := by decide +kernel
theorem dX7_in_5 : decode cX7_in 5 = .ok (.iload_n 0, 1) := by decide +kernel
theorem dX7_in_6 : decode cX7_in 6 = .ok (.iload_n 2, 1) := by decide +kernel
theorem dX7_in_7 : decode cX7_in 7 = .ok (.if_icmp .gt 7, 3) := by decide +kernel
theorem dX7_in_10 : decode cX7_in 10 = .ok (.iconst 1, 1) := by decide +kernel
theorem dX7_in_11 : decode cX7_in 11 = .ok (.goto 4, 3) := by decide +kernel
theorem dX7_in_14 : decode cX7_in 14 = .ok (.iconst 0, 1) := by decide +kernel
theorem dX7_in_15 : decode cX7_in 15 = .ok (.ireturn, 1) := by decide +kernel
theorem dX7_copies_0 : decode cX7_copies 0 = .ok (.iconst 0, 1) := by decide +kernel
theorem dX7_copies_1 : decode cX7_copies 1 = .ok (.istore_n 2, 1) := by decide +kernel
theorem dX7_copies_2 : decode cX7_copies 2 = .ok (.iload_n 2, 1) := by decide +kernel
theorem dX7_copies_3 : decode cX7_copies 3 = .ok (.sipush 580, 3) := by decide +kernel
theorem dX7_copies_6 : decode cX7_copies 6 = .ok (.if_icmp .ge 15, 3) := by decide +kernel
theorem dX7_copies_9 : decode cX7_copies 9 = .ok (.aload_n 1, 1) := by decide +kernel
theorem dX7_copies_10 : decode cX7_copies 10 = .ok (.iload_n 2, 1) := by decide +kernel
theorem dX7_copies_11 : decode cX7_copies 11 = .ok (.aload_n 0, 1) := by decide +kernel
theorem dX7_copies_12 : decode cX7_copies 12 = .ok (.iload_n 2, 1) := by decide +kernel
theorem dX7_copies_13 : decode cX7_copies 13 = .ok (.iaload, 1) := by decide +kernel
theorem dX7_copies_14 : decode cX7_copies 14 = .ok (.iastore, 1) := by decide +kernel
theorem dX7_copies_15 : decode cX7_copies 15 = .ok (.iinc 2 1, 3) := by decide +kernel
theorem dX7_copies_18 : decode cX7_copies 18 = .ok (.goto (-16), 3) := by decide +kernel
theorem dX7_copies_21 : decode cX7_copies 21 = .ok (.return_, 1) := by decide +kernel
theorem dX7_changes_0 : decode cX7_changes 0 = .ok (.aload_n 0, 1) := by decide +kernel
theorem dX7_changes_1 : decode cX7_changes 1 = .ok (.getfield 42, 3) := by decide +kernel
theorem dX7_changes_4 : decode cX7_changes 4 = .ok (.ifCond .eq 4, 3) := by decide +kernel
theorem dX7_changes_7 : decode cX7_changes 7 = .ok (.return_, 1) := by decide +kernel
theorem dX7_changes_8 : decode cX7_changes 8 = .ok (.aload_n 0, 1) := by decide +kernel
theorem dX7_changes_9 : decode cX7_changes 9 = .ok (.getfield 46, 3) := by decide +kernel
theorem dX7_changes_12 : decode cX7_changes 12 = .ok (.iconst 4, 1) := by decide +kernel
theorem dX7_changes_13 : decode cX7_changes 13 = .ok (.if_icmp .ne 44, 3) := by decide +kernel
theorem dX7_changes_16 : decode cX7_changes 16 = .ok (.iconst 0, 1) := by decide +kernel
theorem dX7_changes_17 : decode cX7_changes 17 = .ok (.istore_n 1, 1) := by decide +kernel
theorem dX7_changes_18 : decode cX7_changes 18 = .ok (.iload_n 1, 1) := by decide +kernel
theorem dX7_changes_19 : decode cX7_changes 19 = .ok (.sipush 1740, 3) := by decide +kernel
theorem dX7_changes_22 : decode cX7_changes 22 = .ok (.if_icmp .ge 25, 3) := by decide +kernel
theorem dX7_changes_25 : decode cX7_changes 25 = .ok (.aload_n 0, 1) := by decide +kernel
theorem dX7_changes_26 : decode cX7_changes 26 = .ok (.getfield 13, 3) := by decide +kernel
theorem dX7_changes_29 : decode cX7_changes 29 = .ok (.iload_n 1, 1) := by decide +kernel
theorem dX7_changes_30 : decode cX7_changes 30 = .ok (.aload_n 0, 1) := by decide +kernel
theorem dX7_changes_31 : decode cX7_changes 31 = .ok (.getfield 13, 3) := by decide +kernel
theorem dX7_changes_34 : decode cX7_changes 34 = .ok (.iload_n 1, 1) := by decide +kernel
theorem dX7_changes_35 : decode cX7_changes 35 = .ok (.sipush 580, 3) := by decide +kernel
theorem dX7_changes_38 : decode cX7_changes 38 = .ok (.iadd, 1) := by decide +kernel
theorem dX7_changes_39 : decode cX7_changes 39 = .ok (.iaload, 1) := by decide +kernel
theorem dX7_changes_40 : decode cX7_changes 40 = .ok (.iastore, 1) := by decide +kernel
theorem dX7_changes_41 : decode cX7_changes 41 = .ok (.iinc 1 1, 3) := by decide +kernel
theorem dX7_changes_44 : decode cX7_changes 44 = .ok (.goto (-26), 3) := by decide +kernel
theorem dX7_changes_47 : decode cX7_changes 47 = .ok (.aload_n 0, 1) := by decide +kernel
theorem dX7_changes_48 : decode cX7_changes 48 = .ok (.dup, 1) := by decide +kernel
theorem dX7_changes_49 : decode cX7_changes 49 = .ok (.getfield 46, 3) := by decide +kernel
theorem dX7_changes_52 : decode cX7_changes 52 = .ok (.iconst 1, 1) := by decide +kernel
theorem dX7_changes_53 : decode cX7_changes 53 = .ok (.isub, 1) := by decide +kernel
theorem dX7_changes_54 : decode cX7_changes 54 = .ok (.putfield 46, 3) := by decide +kernel
theorem dX7_changes_57 : decode cX7_changes 57 = .ok (.iconst 0, 1) := by decide +kernel
theorem dX7_changes_58 : decode cX7_changes 58 = .ok (.istore_n 1, 1) := by decide +kernel
theorem dX7_changes_59 : decode cX7_changes 59 = .ok (.iload_n 1, 1) := by decide +kernel
theorem dX7_changes_60 : decode cX7_changes 60 = .ok (.sipush 580, 3) := by decide +kernel
theorem dX7_changes_63 : decode cX7_changes 63 = .ok (.if_icmp .ge 30, 3) := by decide +kernel
theorem dX7_changes_66 : decode cX7_changes 66 = .ok (.aload_n 0, 1) := by decide +kernel
theorem dX7_changes_67 : decode cX7_changes 67 = .ok (.getfield 13, 3) := by decide +kernel
theorem dX7_changes_70 : decode cX7_changes 70 = .ok (.sipush 580, 3) := by decide +kernel
theorem dX7_changes_73 : decode cX7_changes 73 = .ok (.aload_n 0, 1) := by decide +kernel
theorem dX7_changes_74 : decode cX7_changes 74 = .ok (.getfield 46, 3) := by decide +kernel
theorem dX7_changes_77 : decode cX7_changes 77 = .ok (.imul, 1) := by decide +kernel
theorem dX7_changes_78 : decode cX7_changes 78 = .ok (.iload_n 1, 1) := by decide +kernel
theorem dX7_changes_79 : decode cX7_changes 79 = .ok (.iadd, 1) := by decide +kernel
theorem dX7_changes_80 : decode cX7_changes 80 = .ok (.aload_n 0, 1) := by decide +kernel
theorem dX7_changes_81 : decode cX7_changes 81 = .ok (.getfield 7, 3) := by decide +kernel
theorem dX7_changes_84 : decode cX7_changes 84 = .ok (.iload_n 1, 1) := by decide +kernel
theorem dX7_changes_85 : decode cX7_changes 85 = .ok (.iaload, 1) := by decide +kernel
theorem dX7_changes_86 : decode cX7_changes 86 = .ok (.iastore, 1) := by decide +kernel
theorem dX7_changes_87 : decode cX7_changes 87 = .ok (.iinc 1 1, 3) := by decide +kernel
theorem dX7_changes_90 : decode cX7_changes 90 = .ok (.goto (-31), 3) := by decide +kernel
theorem dX7_changes_93 : decode cX7_changes 93 = .ok (.aload_n 0, 1) := by decide +kernel
theorem dX7_changes_94 : decode cX7_changes 94 = .ok (.dup, 1) := by decide +kernel
theorem dX7_changes_95 : decode cX7_changes 95 = .ok (.getfield 46, 3) := by decide +kernel
theorem dX7_changes_98 : decode cX7_changes 98 = .ok (.iconst 1, 1) := by decide +kernel
theorem dX7_changes_99 : decode cX7_changes 99 = .ok (.iadd, 1) := by decide +kernel
theorem dX7_changes_100 : decode cX7_changes 100 = .ok (.putfield 46, 3) := by decide +kernel
theorem dX7_changes_103 : decode cX7_changes 103 = .ok (.return_, 1) := by decide +kernel
theorem dX7_lays_0 : decode cX7_lays 0 = .ok (.aload_n 0, 1) := by decide +kernel
theorem dX7_lays_1 : decode cX7_lays 1 = .ok (.getfield 7, 3) := by decide +kernel
theorem dX7_lays_4 : decode cX7_lays 4 = .ok (.iconst 0, 1) := by decide +kernel
theorem dX7_lays_5 : decode cX7_lays 5 = .ok (.iload_n 1, 1) := by decide +kernel
theorem dX7_lays_6 : decode cX7_lays 6 = .ok (.iastore, 1) := by decide +kernel
theorem dX7_lays_7 : decode cX7_lays 7 = .ok (.aload_n 0, 1) := by decide +kernel
theorem dX7_lays_8 : decode cX7_lays 8 = .ok (.getfield 7, 3) := by decide +kernel
theorem dX7_lays_11 : decode cX7_lays 11 = .ok (.iconst 1, 1) := by decide +kernel
theorem dX7_lays_12 : decode cX7_lays 12 = .ok (.iconst 1, 1) := by decide +kernel
theorem dX7_lays_13 : decode cX7_lays 13 = .ok (.iastore, 1) := by decide +kernel
theorem dX7_lays_14 : decode cX7_lays 14 = .ok (.aload_n 0, 1) := by decide +kernel
theorem dX7_lays_15 : decode cX7_lays 15 = .ok (.getfield 7, 3) := by decide +kernel
theorem dX7_lays_18 : decode cX7_lays 18 = .ok (.iconst 2, 1) := by decide +kernel
theorem dX7_lays_19 : decode cX7_lays 19 = .ok (.iconst 1, 1) := by decide +kernel
theorem dX7_lays_20 : decode cX7_lays 20 = .ok (.iastore, 1) := by decide +kernel
theorem dX7_lays_21 : decode cX7_lays 21 = .ok (.aload_n 0, 1) := by decide +kernel
theorem dX7_lays_22 : decode cX7_lays 22 = .ok (.getfield 7, 3) := by decide +kernel
theorem dX7_lays_25 : decode cX7_lays 25 = .ok (.iconst 3, 1) := by decide +kernel
theorem dX7_lays_26 : decode cX7_lays 26 = .ok (.iconst 0, 1) := by decide +kernel
theorem dX7_lays_27 : decode cX7_lays 27 = .ok (.iastore, 1) := by decide +kernel
theorem dX7_lays_28 : decode cX7_lays 28 = .ok (.aload_n 0, 1) := by decide +kernel
theorem dX7_lays_29 : decode cX7_lays 29 = .ok (.getfield 7, 3) := by decide +kernel
theorem dX7_lays_32 : decode cX7_lays 32 = .ok (.iconst 4, 1) := by decide +kernel
theorem dX7_lays_33 : decode cX7_lays 33 = .ok (.iconst 0, 1) := by decide +kernel
theorem dX7_lays_34 : decode cX7_lays 34 = .ok (.iastore, 1) := by decide +kernel
theorem dX7_lays_35 : decode cX7_lays 35 = .ok (.iconst 0, 1) := by decide +kernel
theorem dX7_lays_36 : decode cX7_lays 36 = .ok (.istore 4, 2) := by decide +kernel
theorem dX7_lays_38 : decode cX7_lays 38 = .ok (.iload 4, 2) := by decide +kernel
theorem dX7_lays_40 : decode cX7_lays 40 = .ok (.iconst 4, 1) := by decide +kernel
theorem dX7_lays_41 : decode cX7_lays 41 = .ok (.if_icmp .ge 20, 3) := by decide +kernel
theorem dX7_lays_44 : decode cX7_lays 44 = .ok (.aload_n 0, 1) := by decide +kernel
theorem dX7_lays_45 : decode cX7_lays 45 = .ok (.getfield 7, 3) := by decide +kernel
theorem dX7_lays_48 : decode cX7_lays 48 = .ok (.bipush 20, 2) := by decide +kernel
theorem dX7_lays_50 : decode cX7_lays 50 = .ok (.iload 4, 2) := by decide +kernel
theorem dX7_lays_52 : decode cX7_lays 52 = .ok (.iadd, 1) := by decide +kernel
theorem dX7_lays_53 : decode cX7_lays 53 = .ok (.iconst 0, 1) := by decide +kernel
theorem dX7_lays_54 : decode cX7_lays 54 = .ok (.iastore, 1) := by decide +kernel
theorem dX7_lays_55 : decode cX7_lays 55 = .ok (.iinc 4 1, 3) := by decide +kernel
theorem dX7_lays_58 : decode cX7_lays 58 = .ok (.goto (-20), 3) := by decide +kernel
theorem dX7_lays_61 : decode cX7_lays 61 = .ok (.iconst 0, 1) := by decide +kernel
theorem dX7_lays_62 : decode cX7_lays 62 = .ok (.istore 4, 2) := by decide +kernel
theorem dX7_lays_64 : decode cX7_lays 64 = .ok (.iload 4, 2) := by decide +kernel
theorem dX7_lays_66 : decode cX7_lays 66 = .ok (.bipush 12, 2) := by decide +kernel
theorem dX7_lays_68 : decode cX7_lays 68 = .ok (.if_icmp .ge 75, 3) := by decide +kernel
theorem dX7_lays_71 : decode cX7_lays 71 = .ok (.iload_n 2, 1) := by decide +kernel
theorem dX7_lays_72 : decode cX7_lays 72 = .ok (.iload 4, 2) := by decide +kernel
theorem dX7_lays_74 : decode cX7_lays 74 = .ok (.iload_n 3, 1) := by decide +kernel
theorem dX7_lays_75 : decode cX7_lays 75 = .ok (.imul, 1) := by decide +kernel
theorem dX7_lays_76 : decode cX7_lays 76 = .ok (.iadd, 1) := by decide +kernel
theorem dX7_lays_77 : decode cX7_lays 77 = .ok (.istore 5, 2) := by decide +kernel
theorem dX7_lays_79 : decode cX7_lays 79 = .ok (.aload_n 0, 1) := by decide +kernel
theorem dX7_lays_80 : decode cX7_lays 80 = .ok (.getfield 7, 3) := by decide +kernel
theorem dX7_lays_83 : decode cX7_lays 83 = .ok (.bipush 8, 2) := by decide +kernel
theorem dX7_lays_85 : decode cX7_lays 85 = .ok (.iload 4, 2) := by decide +kernel
theorem dX7_lays_87 : decode cX7_lays 87 = .ok (.iadd, 1) := by decide +kernel
theorem dX7_lays_88 : decode cX7_lays 88 = .ok (.iload 4, 2) := by decide +kernel
theorem dX7_lays_90 : decode cX7_lays 90 = .ok (.iload_n 1, 1) := by decide +kernel
theorem dX7_lays_91 : decode cX7_lays 91 = .ok (.if_icmp .ge 7, 3) := by decide +kernel
theorem dX7_lays_94 : decode cX7_lays 94 = .ok (.iconst 1, 1) := by decide +kernel
theorem dX7_lays_95 : decode cX7_lays 95 = .ok (.goto 4, 3) := by decide +kernel
theorem dX7_lays_98 : decode cX7_lays 98 = .ok (.iconst 0, 1) := by decide +kernel
theorem dX7_lays_99 : decode cX7_lays 99 = .ok (.iastore, 1) := by decide +kernel
theorem dX7_lays_100 : decode cX7_lays 100 = .ok (.aload_n 0, 1) := by decide +kernel
theorem dX7_lays_101 : decode cX7_lays 101 = .ok (.getfield 7, 3) := by decide +kernel
theorem dX7_lays_104 : decode cX7_lays 104 = .ok (.bipush 100, 2) := by decide +kernel
theorem dX7_lays_106 : decode cX7_lays 106 = .ok (.iload 4, 2) := by decide +kernel
theorem dX7_lays_108 : decode cX7_lays 108 = .ok (.iadd, 1) := by decide +kernel
theorem dX7_lays_109 : decode cX7_lays 109 = .ok (.ldc 50, 2) := by decide +kernel
theorem dX7_lays_111 : decode cX7_lays 111 = .ok (.iastore, 1) := by decide +kernel
theorem dX7_lays_112 : decode cX7_lays 112 = .ok (.aload_n 0, 1) := by decide +kernel
theorem dX7_lays_113 : decode cX7_lays 113 = .ok (.getfield 7, 3) := by decide +kernel
theorem dX7_lays_116 : decode cX7_lays 116 = .ok (.sipush 340, 3) := by decide +kernel
theorem dX7_lays_119 : decode cX7_lays 119 = .ok (.iload 4, 2) := by decide +kernel
theorem dX7_lays_121 : decode cX7_lays 121 = .ok (.iadd, 1) := by decide +kernel
theorem dX7_lays_122 : decode cX7_lays 122 = .ok (.iload 5, 2) := by decide +kernel
theorem dX7_lays_124 : decode cX7_lays 124 = .ok (.bipush 99, 2) := by decide +kernel
theorem dX7_lays_126 : decode cX7_lays 126 = .ok (.if_icmp .le 8, 3) := by decide +kernel
theorem dX7_lays_129 : decode cX7_lays 129 = .ok (.bipush 99, 2) := by decide +kernel
theorem dX7_lays_131 : decode cX7_lays 131 = .ok (.goto 5, 3) := by decide +kernel
theorem dX7_lays_134 : decode cX7_lays 134 = .ok (.iload 5, 2) := by decide +kernel
theorem dX7_lays_136 : decode cX7_lays 136 = .ok (.iastore, 1) := by decide +kernel
theorem dX7_lays_137 : decode cX7_lays 137 = .ok (.iinc 4 1, 3) := by decide +kernel
theorem dX7_lays_140 : decode cX7_lays 140 = .ok (.goto (-76), 3) := by decide +kernel
theorem dX7_lays_143 : decode cX7_lays 143 = .ok (.return_, 1) := by decide +kernel
theorem dX7_isParticle_0 : decode cX7_isParticle 0 = .ok (.iload_n 1, 1) := by decide +kernel
theorem dX7_isParticle_1 : decode cX7_isParticle 1 = .ok (.ifCond .lt 17, 3) := by decide +kernel
theorem dX7_isParticle_4 : decode cX7_isParticle 4 = .ok (.iload_n 1, 1) := by decide +kernel
theorem dX7_isParticle_5 : decode cX7_isParticle 5 = .ok (.aload_n 0, 1) := by decide +kernel
theorem dX7_isParticle_6 : decode cX7_isParticle 6 = .ok (.getfield 7, 3) := by decide +kernel
theorem dX7_isParticle_9 : decode cX7_isParticle 9 = .ok (.iconst 0, 1) := by decide +kernel
theorem dX7_isParticle_10 : decode cX7_isParticle 10 = .ok (.iaload, 1) := by decide +kernel
theorem dX7_isParticle_11 : decode cX7_isParticle 11 = .ok (.if_icmp .ge 7, 3) := by decide +kernel
theorem dX7_isParticle_14 : decode cX7_isParticle 14 = .ok (.iconst 1, 1) := by decide +kernel
theorem dX7_isParticle_15 : decode cX7_isParticle 15 = .ok (.goto 4, 3) := by decide +kernel
theorem dX7_isParticle_18 : decode cX7_isParticle 18 = .ok (.iconst 0, 1) := by decide +kernel
theorem dX7_isParticle_19 : decode cX7_isParticle 19 = .ok (.ireturn, 1) := by decide +kernel
theorem dX7_isGeneration_0 : decode cX7_isGeneration 0 = .ok (.iload_n 1, 1) := by decide +kernel
theorem dX7_isGeneration_1 : decode cX7_isGeneration 1 = .ok (.ifCond .lt 17, 3) := by decide +kernel
theorem dX7_isGeneration_4 : decode cX7_isGeneration 4 = .ok (.iload_n 1, 1) := by decide +kernel
theorem dX7_isGeneration_5 : decode cX7_isGeneration 5 = .ok (.aload_n 0, 1) := by decide +kernel
theorem dX7_isGeneration_6 : decode cX7_isGeneration 6 = .ok (.getfield 7, 3) := by decide +kernel
theorem dX7_isGeneration_9 : decode cX7_isGeneration 9 = .ok (.iconst 1, 1) := by decide +kernel
theorem dX7_isGeneration_10 : decode cX7_isGeneration 10 = .ok (.iaload, 1) := by decide +kernel
theorem dX7_isGeneration_11 : decode cX7_isGeneration 11 = .ok (.if_icmp .ge 7, 3) := by decide +kernel
theorem dX7_isGeneration_14 : decode cX7_isGeneration 14 = .ok (.iconst 1, 1) := by decide +kernel
theorem dX7_isGeneration_15 : decode cX7_isGeneration 15 = .ok (.goto 4, 3) := by decide +kernel
theorem dX7_isGeneration_18 : decode cX7_isGeneration 18 = .ok (.iconst 0, 1) := by decide +kernel
theorem dX7_isGeneration_19 : decode cX7_isGeneration 19 = .ok (.ireturn, 1) := by decide +kernel
theorem dX7_latest_0 : decode cX7_latest 0 = .ok (.aload_n 0, 1) := by decide +kernel
theorem dX7_latest_1 : decode cX7_latest 1 = .ok (.getfield 7, 3) := by decide +kernel
theorem dX7_latest_4 : decode cX7_latest 4 = .ok (.iconst 1, 1) := by decide +kernel
theorem dX7_latest_5 : decode cX7_latest 5 = .ok (.iaload, 1) := by decide +kernel
theorem dX7_latest_6 : decode cX7_latest 6 = .ok (.iconst 1, 1) := by decide +kernel
theorem dX7_latest_7 : decode cX7_latest 7 = .ok (.isub, 1) := by decide +kernel
theorem dX7_latest_8 : decode cX7_latest 8 = .ok (.ireturn, 1) := by decide +kernel
theorem dX7_placeIn_0 : decode cX7_placeIn 0 = .ok (.aload_n 0, 1) := by decide +kernel
theorem dX7_placeIn_1 : decode cX7_placeIn 1 = .ok (.getfield 7, 3) := by decide +kernel
theorem dX7_placeIn_4 : decode cX7_placeIn 4 = .ok (.sipush 340, 3) := by decide +kernel
theorem dX7_placeIn_7 : decode cX7_placeIn 7 = .ok (.bipush 12, 2) := by decide +kernel
theorem dX7_placeIn_9 : decode cX7_placeIn 9 = .ok (.iload_n 1, 1) := by decide +kernel
theorem dX7_placeIn_10 : decode cX7_placeIn 10 = .ok (.imul, 1) := by decide +kernel
theorem dX7_placeIn_11 : decode cX7_placeIn 11 = .ok (.iadd, 1) := by decide +kernel
theorem dX7_placeIn_12 : decode cX7_placeIn 12 = .ok (.iload_n 2, 1) := by decide +kernel
theorem dX7_placeIn_13 : decode cX7_placeIn 13 = .ok (.iadd, 1) := by decide +kernel
theorem dX7_placeIn_14 : decode cX7_placeIn 14 = .ok (.iaload, 1) := by decide +kernel
theorem dX7_placeIn_15 : decode cX7_placeIn 15 = .ok (.ireturn, 1) := by decide +kernel
theorem dX7_takes_0 : decode cX7_takes 0 = .ok (.aload_n 0, 1) := by decide +kernel
theorem dX7_takes_1 : decode cX7_takes 1 = .ok (.getfield 7, 3) := by decide +kernel
theorem dX7_takes_4 : decode cX7_takes 4 = .ok (.iconst 2, 1) := by decide +kernel
theorem dX7_takes_5 : decode cX7_takes 5 = .ok (.aload_n 0, 1) := by decide +kernel
theorem dX7_takes_6 : decode cX7_takes 6 = .ok (.getfield 7, 3) := by decide +kernel
theorem dX7_takes_9 : decode cX7_takes 9 = .ok (.iconst 2, 1) := by decide +kernel
theorem dX7_takes_10 : decode cX7_takes 10 = .ok (.iaload, 1) := by decide +kernel
theorem dX7_takes_11 : decode cX7_takes 11 = .ok (.bipush 75, 2) := by decide +kernel
theorem dX7_takes_13 : decode cX7_takes 13 = .ok (.imul, 1) := by decide +kernel
theorem dX7_takes_14 : decode cX7_takes 14 = .ok (.bipush 74, 2) := by decide +kernel
theorem dX7_takes_16 : decode cX7_takes 16 = .ok (.iadd, 1) := by decide +kernel
theorem dX7_takes_17 : decode cX7_takes 17 = .ok (.ldc 51, 2) := by decide +kernel
theorem dX7_takes_19 : decode cX7_takes 19 = .ok (.irem, 1) := by decide +kernel
theorem dX7_takes_20 : decode cX7_takes 20 = .ok (.iastore, 1) := by decide +kernel
theorem dX7_takes_21 : decode cX7_takes 21 = .ok (.aload_n 0, 1) := by decide +kernel
theorem dX7_takes_22 : decode cX7_takes 22 = .ok (.getfield 7, 3) := by decide +kernel
theorem dX7_takes_25 : decode cX7_takes 25 = .ok (.iconst 2, 1) := by decide +kernel
theorem dX7_takes_26 : decode cX7_takes 26 = .ok (.iaload, 1) := by decide +kernel
theorem dX7_takes_27 : decode cX7_takes 27 = .ok (.ireturn, 1) := by decide +kernel
theorem dX7_divisor_0 : decode cX7_divisor 0 = .ok (.iload_n 0, 1) := by decide +kernel
theorem dX7_divisor_1 : decode cX7_divisor 1 = .ok (.istore_n 2, 1) := by decide +kernel
theorem dX7_divisor_2 : decode cX7_divisor 2 = .ok (.iload_n 1, 1) := by decide +kernel
theorem dX7_divisor_3 : decode cX7_divisor 3 = .ok (.istore_n 3, 1) := by decide +kernel
theorem dX7_divisor_4 : decode cX7_divisor 4 = .ok (.iload_n 3, 1) := by decide +kernel
theorem dX7_divisor_5 : decode cX7_divisor 5 = .ok (.ifCond .eq 16, 3) := by decide +kernel
theorem dX7_divisor_8 : decode cX7_divisor 8 = .ok (.iload_n 2, 1) := by decide +kernel
theorem dX7_divisor_9 : decode cX7_divisor 9 = .ok (.iload_n 3, 1) := by decide +kernel
theorem dX7_divisor_10 : decode cX7_divisor 10 = .ok (.irem, 1) := by decide +kernel
theorem dX7_divisor_11 : decode cX7_divisor 11 = .ok (.istore 4, 2) := by decide +kernel
theorem dX7_divisor_13 : decode cX7_divisor 13 = .ok (.iload_n 3, 1) := by decide +kernel
theorem dX7_divisor_14 : decode cX7_divisor 14 = .ok (.istore_n 2, 1) := by decide +kernel
theorem dX7_divisor_15 : decode cX7_divisor 15 = .ok (.iload 4, 2) := by decide +kernel
theorem dX7_divisor_17 : decode cX7_divisor 17 = .ok (.istore_n 3, 1) := by decide +kernel
theorem dX7_divisor_18 : decode cX7_divisor 18 = .ok (.goto (-14), 3) := by decide +kernel
theorem dX7_divisor_21 : decode cX7_divisor 21 = .ok (.iload_n 2, 1) := by decide +kernel
theorem dX7_divisor_22 : decode cX7_divisor 22 = .ok (.ireturn, 1) := by decide +kernel
theorem dX7_sum_0 : decode cX7_sum 0 = .ok (.iconst 0, 1) := by decide +kernel
theorem dX7_sum_1 : decode cX7_sum 1 = .ok (.istore_n 1, 1) := by decide +kernel
theorem dX7_sum_2 : decode cX7_sum 2 = .ok (.iconst 0, 1) := by decide +kernel
theorem dX7_sum_3 : decode cX7_sum 3 = .ok (.istore_n 2, 1) := by decide +kernel
theorem dX7_sum_4 : decode cX7_sum 4 = .ok (.iload_n 2, 1) := by decide +kernel
theorem dX7_sum_5 : decode cX7_sum 5 = .ok (.aload_n 0, 1) := by decide +kernel
theorem dX7_sum_6 : decode cX7_sum 6 = .ok (.getfield 7, 3) := by decide +kernel
theorem dX7_sum_9 : decode cX7_sum 9 = .ok (.iconst 0, 1) := by decide +kernel
theorem dX7_sum_10 : decode cX7_sum 10 = .ok (.iaload, 1) := by decide +kernel
theorem dX7_sum_11 : decode cX7_sum 11 = .ok (.if_icmp .ge 21, 3) := by decide +kernel
theorem dX7_sum_14 : decode cX7_sum 14 = .ok (.iload_n 1, 1) := by decide +kernel
theorem dX7_sum_15 : decode cX7_sum 15 = .ok (.aload_n 0, 1) := by decide +kernel
theorem dX7_sum_16 : decode cX7_sum 16 = .ok (.getfield 7, 3) := by decide +kernel
theorem dX7_sum_19 : decode cX7_sum 19 = .ok (.bipush 8, 2) := by decide +kernel
theorem dX7_sum_21 : decode cX7_sum 21 = .ok (.iload_n 2, 1) := by decide +kernel
theorem dX7_sum_22 : decode cX7_sum 22 = .ok (.iadd, 1) := by decide +kernel
theorem dX7_sum_23 : decode cX7_sum 23 = .ok (.iaload, 1) := by decide +kernel
theorem dX7_sum_24 : decode cX7_sum 24 = .ok (.iadd, 1) := by decide +kernel
theorem dX7_sum_25 : decode cX7_sum 25 = .ok (.istore_n 1, 1) := by decide +kernel
theorem dX7_sum_26 : decode cX7_sum 26 = .ok (.iinc 2 1, 3) := by decide +kernel
theorem dX7_sum_29 : decode cX7_sum 29 = .ok (.goto (-25), 3) := by decide +kernel
theorem dX7_sum_32 : decode cX7_sum 32 = .ok (.iload_n 1, 1) := by decide +kernel
theorem dX7_sum_33 : decode cX7_sum 33 = .ok (.ireturn, 1) := by decide +kernel
set_option maxRecDepth 20000 in
theorem ggX7_effective_X7_sum : GoodIn wsX7_effective wsX7_sum := goodIn_r _ [6, 1, 7, 8, 9, 10, 11, 12, 13, 14, 15, 16, 17, 18, 19, 20, 21, 22, 23, 24] (by decide +kernel) (by decide +kernel)
set_option maxRecDepth 20000 in
theorem gX7_effective_X7_sum : GoodIn wsX7_effective (wsV RX7 52 RX7 yX7_sum wsX7_sum) := goodIn_app (goodIn_of _ (by decide +kernel)) ggX7_effective_X7_sum
theorem dX7_effective_0 : decode cX7_effective 0 = .ok (.lconst 0, 1) := by decide +kernel
theorem dX7_effective_1 : decode cX7_effective 1 = .ok (.lstore_n 1, 1) := by decide +kernel
theorem dX7_effective_2 : decode cX7_effective 2 = .ok (.aload_n 0, 1) := by decide +kernel
theorem dX7_effective_3 : decode cX7_effective 3 = .ok (.invokevirtual 52, 3) := by decide +kernel
theorem dX7_effective_6 : decode cX7_effective 6 = .ok (.i2l, 1) := by decide +kernel
theorem dX7_effective_7 : decode cX7_effective 7 = .ok (.lstore_n 3, 1) := by decide +kernel
theorem dX7_effective_8 : decode cX7_effective 8 = .ok (.iconst 0, 1) := by decide +kernel
theorem dX7_effective_9 : decode cX7_effective 9 = .ok (.istore 5, 2) := by decide +kernel
theorem dX7_effective_11 : decode cX7_effective 11 = .ok (.iload 5, 2) := by decide +kernel
theorem dX7_effective_13 : decode cX7_effective 13 = .ok (.aload_n 0, 1) := by decide +kernel
theorem dX7_effective_14 : decode cX7_effective 14 = .ok (.getfield 7, 3) := by decide +kernel
theorem dX7_effective_17 : decode cX7_effective 17 = .ok (.iconst 0, 1) := by decide +kernel
theorem dX7_effective_18 : decode cX7_effective 18 = .ok (.iaload, 1) := by decide +kernel
theorem dX7_effective_19 : decode cX7_effective 19 = .ok (.if_icmp .ge 35, 3) := by decide +kernel
theorem dX7_effective_22 : decode cX7_effective 22 = .ok (.lload_n 1, 1) := by decide +kernel
theorem dX7_effective_23 : decode cX7_effective 23 = .ok (.aload_n 0, 1) := by decide +kernel
theorem dX7_effective_24 : decode cX7_effective 24 = .ok (.getfield 7, 3) := by decide +kernel
theorem dX7_effective_27 : decode cX7_effective 27 = .ok (.bipush 8, 2) := by decide +kernel
theorem dX7_effective_29 : decode cX7_effective 29 = .ok (.iload 5, 2) := by decide +kernel
theorem dX7_effective_31 : decode cX7_effective 31 = .ok (.iadd, 1) := by decide +kernel
theorem dX7_effective_32 : decode cX7_effective 32 = .ok (.iaload, 1) := by decide +kernel
theorem dX7_effective_33 : decode cX7_effective 33 = .ok (.i2l, 1) := by decide +kernel
theorem dX7_effective_34 : decode cX7_effective 34 = .ok (.aload_n 0, 1) := by decide +kernel
theorem dX7_effective_35 : decode cX7_effective 35 = .ok (.getfield 7, 3) := by decide +kernel
theorem dX7_effective_38 : decode cX7_effective 38 = .ok (.bipush 8, 2) := by decide +kernel
theorem dX7_effective_40 : decode cX7_effective 40 = .ok (.iload 5, 2) := by decide +kernel
theorem dX7_effective_42 : decode cX7_effective 42 = .ok (.iadd, 1) := by decide +kernel
theorem dX7_effective_43 : decode cX7_effective 43 = .ok (.iaload, 1) := by decide +kernel
theorem dX7_effective_44 : decode cX7_effective 44 = .ok (.i2l, 1) := by decide +kernel
theorem dX7_effective_45 : decode cX7_effective 45 = .ok (.lmul, 1) := by decide +kernel
theorem dX7_effective_46 : decode cX7_effective 46 = .ok (.ladd, 1) := by decide +kernel
theorem dX7_effective_47 : decode cX7_effective 47 = .ok (.lstore_n 1, 1) := by decide +kernel
theorem dX7_effective_48 : decode cX7_effective 48 = .ok (.iinc 5 1, 3) := by decide +kernel
theorem dX7_effective_51 : decode cX7_effective 51 = .ok (.goto (-40), 3) := by decide +kernel
theorem dX7_effective_54 : decode cX7_effective 54 = .ok (.lload_n 3, 1) := by decide +kernel
theorem dX7_effective_55 : decode cX7_effective 55 = .ok (.lload_n 3, 1) := by decide +kernel
theorem dX7_effective_56 : decode cX7_effective 56 = .ok (.lmul, 1) := by decide +kernel
theorem dX7_effective_57 : decode cX7_effective 57 = .ok (.lload_n 1, 1) := by decide +kernel
theorem dX7_effective_58 : decode cX7_effective 58 = .ok (.ldiv, 1) := by decide +kernel
theorem dX7_effective_59 : decode cX7_effective 59 = .ok (.l2i, 1) := by decide +kernel
theorem dX7_effective_60 : decode cX7_effective 60 = .ok (.ireturn, 1) := by decide +kernel
set_option maxRecDepth 20000 in
theorem ggX7_divides_X7_divisor : GoodIn wsX7_divides wsX7_divisor := goodIn_r _ [5] (by decide +kernel) (by decide +kernel)
set_option maxRecDepth 20000 in
theorem gX7_divides_X7_divisor : GoodIn wsX7_divides (va_wsS RX7 56 yX7_divisor wsX7_divisor) := goodIn_app (goodIn_of _ (by decide +kernel)) ggX7_divides_X7_divisor
theorem dX7_divides_0 : decode cX7_divides 0 = .ok (.iconst 0, 1) := by decide +kernel
theorem dX7_divides_1 : decode cX7_divides 1 = .ok (.istore_n 1, 1) := by decide +kernel
theorem dX7_divides_2 : decode cX7_divides 2 = .ok (.iconst 0, 1) := by decide +kernel
theorem dX7_divides_3 : decode cX7_divides 3 = .ok (.istore_n 2, 1) := by decide +kernel
theorem dX7_divides_4 : decode cX7_divides 4 = .ok (.iconst 0, 1) := by decide +kernel
theorem dX7_divides_5 : decode cX7_divides 5 = .ok (.istore_n 3, 1) := by decide +kernel
theorem dX7_divides_6 : decode cX7_divides 6 = .ok (.iload_n 3, 1) := by decide +kernel
theorem dX7_divides_7 : decode cX7_divides 7 = .ok (.aload_n 0, 1) := by decide +kernel
theorem dX7_divides_8 : decode cX7_divides 8 = .ok (.getfield 7, 3) := by decide +kernel
theorem dX7_divides_11 : decode cX7_divides 11 = .ok (.iconst 0, 1) := by decide +kernel
theorem dX7_divides_12 : decode cX7_divides 12 = .ok (.iaload, 1) := by decide +kernel
theorem dX7_divides_13 : decode cX7_divides 13 = .ok (.if_icmp .ge 23, 3) := by decide +kernel
theorem dX7_divides_16 : decode cX7_divides 16 = .ok (.aload_n 0, 1) := by decide +kernel
theorem dX7_divides_17 : decode cX7_divides 17 = .ok (.getfield 7, 3) := by decide +kernel
theorem dX7_divides_20 : decode cX7_divides 20 = .ok (.bipush 8, 2) := by decide +kernel
theorem dX7_divides_22 : decode cX7_divides 22 = .ok (.iload_n 3, 1) := by decide +kernel
theorem dX7_divides_23 : decode cX7_divides 23 = .ok (.iadd, 1) := by decide +kernel
theorem dX7_divides_24 : decode cX7_divides 24 = .ok (.iaload, 1) := by decide +kernel
theorem dX7_divides_25 : decode cX7_divides 25 = .ok (.iload_n 1, 1) := by decide +kernel
theorem dX7_divides_26 : decode cX7_divides 26 = .ok (.invokestatic 56, 3) := by decide +kernel
theorem dX7_divides_29 : decode cX7_divides 29 = .ok (.istore_n 1, 1) := by decide +kernel
theorem dX7_divides_30 : decode cX7_divides 30 = .ok (.iinc 3 1, 3) := by decide +kernel
theorem dX7_divides_33 : decode cX7_divides 33 = .ok (.goto (-27), 3) := by decide +kernel
theorem dX7_divides_36 : decode cX7_divides 36 = .ok (.iconst 0, 1) := by decide +kernel
theorem dX7_divides_37 : decode cX7_divides 37 = .ok (.istore_n 3, 1) := by decide +kernel
theorem dX7_divides_38 : decode cX7_divides 38 = .ok (.iload_n 3, 1) := by decide +kernel
theorem dX7_divides_39 : decode cX7_divides 39 = .ok (.aload_n 0, 1) := by decide +kernel
theorem dX7_divides_40 : decode cX7_divides 40 = .ok (.getfield 7, 3) := by decide +kernel
theorem dX7_divides_43 : decode cX7_divides 43 = .ok (.iconst 0, 1) := by decide +kernel
theorem dX7_divides_44 : decode cX7_divides 44 = .ok (.iaload, 1) := by decide +kernel
theorem dX7_divides_45 : decode cX7_divides 45 = .ok (.if_icmp .ge 53, 3) := by decide +kernel
theorem dX7_divides_48 : decode cX7_divides 48 = .ok (.iload_n 1, 1) := by decide +kernel
theorem dX7_divides_49 : decode cX7_divides 49 = .ok (.ifCond .le 49, 3) := by decide +kernel
theorem dX7_divides_52 : decode cX7_divides 52 = .ok (.aload_n 0, 1) := by decide +kernel
theorem dX7_divides_53 : decode cX7_divides 53 = .ok (.getfield 7, 3) := by decide +kernel
theorem dX7_divides_56 : decode cX7_divides 56 = .ok (.bipush 8, 2) := by decide +kernel
theorem dX7_divides_58 : decode cX7_divides 58 = .ok (.iload_n 3, 1) := by decide +kernel
theorem dX7_divides_59 : decode cX7_divides 59 = .ok (.iadd, 1) := by decide +kernel
theorem dX7_divides_60 : decode cX7_divides 60 = .ok (.dup2, 1) := by decide +kernel
theorem dX7_divides_61 : decode cX7_divides 61 = .ok (.iaload, 1) := by decide +kernel
theorem dX7_divides_62 : decode cX7_divides 62 = .ok (.iload_n 1, 1) := by decide +kernel
theorem dX7_divides_63 : decode cX7_divides 63 = .ok (.idiv, 1) := by decide +kernel
theorem dX7_divides_64 : decode cX7_divides 64 = .ok (.iastore, 1) := by decide +kernel
theorem dX7_divides_65 : decode cX7_divides 65 = .ok (.aload_n 0, 1) := by decide +kernel
theorem dX7_divides_66 : decode cX7_divides 66 = .ok (.getfield 7, 3) := by decide +kernel
theorem dX7_divides_69 : decode cX7_divides 69 = .ok (.bipush 8, 2) := by decide +kernel
theorem dX7_divides_71 : decode cX7_divides 71 = .ok (.iload_n 3, 1) := by decide +kernel
theorem dX7_divides_72 : decode cX7_divides 72 = .ok (.iadd, 1) := by decide +kernel
theorem dX7_divides_73 : decode cX7_divides 73 = .ok (.iaload, 1) := by decide +kernel
theorem dX7_divides_74 : decode cX7_divides 74 = .ok (.iload_n 2, 1) := by decide +kernel
theorem dX7_divides_75 : decode cX7_divides 75 = .ok (.if_icmp .le 15, 3) := by decide +kernel
theorem dX7_divides_78 : decode cX7_divides 78 = .ok (.aload_n 0, 1) := by decide +kernel
theorem dX7_divides_79 : decode cX7_divides 79 = .ok (.getfield 7, 3) := by decide +kernel
theorem dX7_divides_82 : decode cX7_divides 82 = .ok (.bipush 8, 2) := by decide +kernel
theorem dX7_divides_84 : decode cX7_divides 84 = .ok (.iload_n 3, 1) := by decide +kernel
theorem dX7_divides_85 : decode cX7_divides 85 = .ok (.iadd, 1) := by decide +kernel
theorem dX7_divides_86 : decode cX7_divides 86 = .ok (.iaload, 1) := by decide +kernel
theorem dX7_divides_87 : decode cX7_divides 87 = .ok (.goto 4, 3) := by decide +kernel
theorem dX7_divides_90 : decode cX7_divides 90 = .ok (.iload_n 2, 1) := by decide +kernel
theorem dX7_divides_91 : decode cX7_divides 91 = .ok (.istore_n 2, 1) := by decide +kernel
theorem dX7_divides_92 : decode cX7_divides 92 = .ok (.iinc 3 1, 3) := by decide +kernel
theorem dX7_divides_95 : decode cX7_divides 95 = .ok (.goto (-57), 3) := by decide +kernel
theorem dX7_divides_98 : decode cX7_divides 98 = .ok (.iload_n 2, 1) := by decide +kernel
theorem dX7_divides_99 : decode cX7_divides 99 = .ok (.ireturn, 1) := by decide +kernel
set_option maxRecDepth 20000 in
theorem ggX7_byPoints_X7_sum : GoodIn wsX7_byPoints wsX7_sum := goodIn_r _ [8, 1, 14, 15, 16, 17, 18, 19, 20, 21, 22, 23, 24, 25, 26, 27, 28, 29, 30, 31] (by decide +kernel) (by decide +kernel)
set_option maxRecDepth 20000 in
theorem gX7_byPoints_X7_sum : GoodIn wsX7_byPoints (wsV RX7 52 RX7 yX7_sum wsX7_sum) := goodIn_app (goodIn_of _ (by decide +kernel)) ggX7_byPoints_X7_sum
set_option maxRecDepth 20000 in
theorem ggX7_byPoints_X7_takes : GoodIn wsX7_byPoints wsX7_takes := goodIn_r _ [12, 1, 13, 14, 15, 16, 17, 18, 19, 20, 21, 22, 23, 24, 25, 26, 27, 28, 29, 30, 31] (by decide +kernel) (by decide +kernel)
set_option maxRecDepth 20000 in
theorem gX7_byPoints_X7_takes : GoodIn wsX7_byPoints (wsV RX7 62 RX7 yX7_takes wsX7_takes) := goodIn_app (goodIn_of _ (by decide +kernel)) ggX7_byPoints_X7_takes
theorem dX7_byPoints_0 : decode cX7_byPoints 0 = .ok (.aload_n 0, 1) := by decide +kernel
theorem dX7_byPoints_1 : decode cX7_byPoints 1 = .ok (.getfield 7, 3) := by decide +kernel
theorem dX7_byPoints_4 : decode cX7_byPoints 4 = .ok (.iconst 0, 1) := by decide +kernel
theorem dX7_byPoints_5 : decode cX7_byPoints 5 = .ok (.iaload, 1) := by decide +kernel
theorem dX7_byPoints_6 : decode cX7_byPoints 6 = .ok (.istore_n 2, 1) := by decide +kernel
theorem dX7_byPoints_7 : decode cX7_byPoints 7 = .ok (.aload_n 0, 1) := by decide +kernel
theorem dX7_byPoints_8 : decode cX7_byPoints 8 = .ok (.invokevirtual 52, 3) := by decide +kernel
theorem dX7_byPoints_11 : decode cX7_byPoints 11 = .ok (.i2l, 1) := by decide +kernel
theorem dX7_byPoints_12 : decode cX7_byPoints 12 = .ok (.lstore_n 3, 1) := by decide +kernel
theorem dX7_byPoints_13 : decode cX7_byPoints 13 = .ok (.aload_n 0, 1) := by decide +kernel
theorem dX7_byPoints_14 : decode cX7_byPoints 14 = .ok (.getfield 7, 3) := by decide +kernel
theorem dX7_byPoints_17 : decode cX7_byPoints 17 = .ok (.bipush 7, 2) := by decide +kernel
theorem dX7_byPoints_19 : decode cX7_byPoints 19 = .ok (.iaload, 1) := by decide +kernel
theorem dX7_byPoints_20 : decode cX7_byPoints 20 = .ok (.i2l, 1) := by decide +kernel
theorem dX7_byPoints_21 : decode cX7_byPoints 21 = .ok (.lload_n 3, 1) := by decide +kernel
theorem dX7_byPoints_22 : decode cX7_byPoints 22 = .ok (.lmul, 1) := by decide +kernel
theorem dX7_byPoints_23 : decode cX7_byPoints 23 = .ok (.ldc2_w 60, 3) := by decide +kernel
theorem dX7_byPoints_26 : decode cX7_byPoints 26 = .ok (.ldiv, 1) := by decide +kernel
theorem dX7_byPoints_27 : decode cX7_byPoints 27 = .ok (.lstore 5, 2) := by decide +kernel
theorem dX7_byPoints_29 : decode cX7_byPoints 29 = .ok (.iconst 0, 1) := by decide +kernel
theorem dX7_byPoints_30 : decode cX7_byPoints 30 = .ok (.istore 7, 2) := by decide +kernel
theorem dX7_byPoints_32 : decode cX7_byPoints 32 = .ok (.iload 7, 2) := by decide +kernel
theorem dX7_byPoints_34 : decode cX7_byPoints 34 = .ok (.iload_n 2, 1) := by decide +kernel
theorem dX7_byPoints_35 : decode cX7_byPoints 35 = .ok (.if_icmp .ge 88, 3) := by decide +kernel
theorem dX7_byPoints_38 : decode cX7_byPoints 38 = .ok (.iload 7, 2) := by decide +kernel
theorem dX7_byPoints_40 : decode cX7_byPoints 40 = .ok (.i2l, 1) := by decide +kernel
theorem dX7_byPoints_41 : decode cX7_byPoints 41 = .ok (.lload_n 3, 1) := by decide +kernel
theorem dX7_byPoints_42 : decode cX7_byPoints 42 = .ok (.lmul, 1) := by decide +kernel
theorem dX7_byPoints_43 : decode cX7_byPoints 43 = .ok (.iload_n 1, 1) := by decide +kernel
theorem dX7_byPoints_44 : decode cX7_byPoints 44 = .ok (.ifCond .ne 8, 3) := by decide +kernel
theorem dX7_byPoints_47 : decode cX7_byPoints 47 = .ok (.lload 5, 2) := by decide +kernel
theorem dX7_byPoints_49 : decode cX7_byPoints 49 = .ok (.goto 10, 3) := by decide +kernel
theorem dX7_byPoints_52 : decode cX7_byPoints 52 = .ok (.aload_n 0, 1) := by decide +kernel
theorem dX7_byPoints_53 : decode cX7_byPoints 53 = .ok (.invokevirtual 62, 3) := by decide +kernel
theorem dX7_byPoints_56 : decode cX7_byPoints 56 = .ok (.i2l, 1) := by decide +kernel
theorem dX7_byPoints_57 : decode cX7_byPoints 57 = .ok (.lload_n 3, 1) := by decide +kernel
theorem dX7_byPoints_58 : decode cX7_byPoints 58 = .ok (.lrem, 1) := by decide +kernel
theorem dX7_byPoints_59 : decode cX7_byPoints 59 = .ok (.ladd, 1) := by decide +kernel
theorem dX7_byPoints_60 : decode cX7_byPoints 60 = .ok (.lstore 8, 2) := by decide +kernel
theorem dX7_byPoints_62 : decode cX7_byPoints 62 = .ok (.iconst 0, 1) := by decide +kernel
theorem dX7_byPoints_63 : decode cX7_byPoints 63 = .ok (.istore 10, 2) := by decide +kernel
theorem dX7_byPoints_65 : decode cX7_byPoints 65 = .ok (.aload_n 0, 1) := by decide +kernel
theorem dX7_byPoints_66 : decode cX7_byPoints 66 = .ok (.getfield 7, 3) := by decide +kernel
theorem dX7_byPoints_69 : decode cX7_byPoints 69 = .ok (.bipush 8, 2) := by decide +kernel
theorem dX7_byPoints_71 : decode cX7_byPoints 71 = .ok (.iaload, 1) := by decide +kernel
theorem dX7_byPoints_72 : decode cX7_byPoints 72 = .ok (.i2l, 1) := by decide +kernel
theorem dX7_byPoints_73 : decode cX7_byPoints 73 = .ok (.lstore 11, 2) := by decide +kernel
theorem dX7_byPoints_75 : decode cX7_byPoints 75 = .ok (.iload_n 2, 1) := by decide +kernel
theorem dX7_byPoints_76 : decode cX7_byPoints 76 = .ok (.i2l, 1) := by decide +kernel
theorem dX7_byPoints_77 : decode cX7_byPoints 77 = .ok (.lload 11, 2) := by decide +kernel
theorem dX7_byPoints_79 : decode cX7_byPoints 79 = .ok (.lmul, 1) := by decide +kernel
theorem dX7_byPoints_80 : decode cX7_byPoints 80 = .ok (.lload 8, 2) := by decide +kernel
theorem dX7_byPoints_82 : decode cX7_byPoints 82 = .ok (.lcmp, 1) := by decide +kernel
theorem dX7_byPoints_83 : decode cX7_byPoints 83 = .ok (.ifCond .gt 25, 3) := by decide +kernel
theorem dX7_byPoints_86 : decode cX7_byPoints 86 = .ok (.iinc 10 1, 3) := by decide +kernel
theorem dX7_byPoints_89 : decode cX7_byPoints 89 = .ok (.lload 11, 2) := by decide +kernel
theorem dX7_byPoints_91 : decode cX7_byPoints 91 = .ok (.aload_n 0, 1) := by decide +kernel
theorem dX7_byPoints_92 : decode cX7_byPoints 92 = .ok (.getfield 7, 3) := by decide +kernel
theorem dX7_byPoints_95 : decode cX7_byPoints 95 = .ok (.bipush 8, 2) := by decide +kernel
theorem dX7_byPoints_97 : decode cX7_byPoints 97 = .ok (.iload 10, 2) := by decide +kernel
theorem dX7_byPoints_99 : decode cX7_byPoints 99 = .ok (.iadd, 1) := by decide +kernel
theorem dX7_byPoints_100 : decode cX7_byPoints 100 = .ok (.iaload, 1) := by decide +kernel
theorem dX7_byPoints_101 : decode cX7_byPoints 101 = .ok (.i2l, 1) := by decide +kernel
theorem dX7_byPoints_102 : decode cX7_byPoints 102 = .ok (.ladd, 1) := by decide +kernel
theorem dX7_byPoints_103 : decode cX7_byPoints 103 = .ok (.lstore 11, 2) := by decide +kernel
theorem dX7_byPoints_105 : decode cX7_byPoints 105 = .ok (.goto (-30), 3) := by decide +kernel
theorem dX7_byPoints_108 : decode cX7_byPoints 108 = .ok (.aload_n 0, 1) := by decide +kernel
theorem dX7_byPoints_109 : decode cX7_byPoints 109 = .ok (.getfield 22, 3) := by decide +kernel
theorem dX7_byPoints_112 : decode cX7_byPoints 112 = .ok (.iload 7, 2) := by decide +kernel
theorem dX7_byPoints_114 : decode cX7_byPoints 114 = .ok (.iload 10, 2) := by decide +kernel
theorem dX7_byPoints_116 : decode cX7_byPoints 116 = .ok (.iastore, 1) := by decide +kernel
theorem dX7_byPoints_117 : decode cX7_byPoints 117 = .ok (.iinc 7 1, 3) := by decide +kernel
theorem dX7_byPoints_120 : decode cX7_byPoints 120 = .ok (.goto (-88), 3) := by decide +kernel
theorem dX7_byPoints_123 : decode cX7_byPoints 123 = .ok (.return_, 1) := by decide +kernel
set_option maxRecDepth 20000 in
theorem ggX7_byTimes_X7_sum : GoodIn wsX7_byTimes wsX7_sum := goodIn_r _ [10, 1, 11, 12, 13, 14, 15, 16, 17, 18, 19, 20, 21, 22, 23, 24, 25, 26, 27, 28] (by decide +kernel) (by decide +kernel)
set_option maxRecDepth 20000 in
theorem gX7_byTimes_X7_sum : GoodIn wsX7_byTimes (wsV RX7 52 RX7 yX7_sum wsX7_sum) := goodIn_app (goodIn_of _ (by decide +kernel)) ggX7_byTimes_X7_sum
theorem dX7_byTimes_0 : decode cX7_byTimes 0 = .ok (.aload_n 0, 1) := by decide +kernel
theorem dX7_byTimes_1 : decode cX7_byTimes 1 = .ok (.getfield 7, 3) := by decide +kernel
theorem dX7_byTimes_4 : decode cX7_byTimes 4 = .ok (.iconst 0, 1) := by decide +kernel
theorem dX7_byTimes_5 : decode cX7_byTimes 5 = .ok (.iaload, 1) := by decide +kernel
theorem dX7_byTimes_6 : decode cX7_byTimes 6 = .ok (.istore_n 1, 1) := by decide +kernel
theorem dX7_byTimes_7 : decode cX7_byTimes 7 = .ok (.aload_n 0, 1) := by decide +kernel
theorem dX7_byTimes_8 : decode cX7_byTimes 8 = .ok (.invokevirtual 52, 3) := by decide +kernel
theorem dX7_byTimes_11 : decode cX7_byTimes 11 = .ok (.i2l, 1) := by decide +kernel
theorem dX7_byTimes_12 : decode cX7_byTimes 12 = .ok (.lstore_n 2, 1) := by decide +kernel
theorem dX7_byTimes_13 : decode cX7_byTimes 13 = .ok (.iload_n 1, 1) := by decide +kernel
theorem dX7_byTimes_14 : decode cX7_byTimes 14 = .ok (.istore 4, 2) := by decide +kernel
theorem dX7_byTimes_16 : decode cX7_byTimes 16 = .ok (.iconst 0, 1) := by decide +kernel
theorem dX7_byTimes_17 : decode cX7_byTimes 17 = .ok (.istore 5, 2) := by decide +kernel
theorem dX7_byTimes_19 : decode cX7_byTimes 19 = .ok (.iload 5, 2) := by decide +kernel
theorem dX7_byTimes_21 : decode cX7_byTimes 21 = .ok (.iload_n 1, 1) := by decide +kernel
theorem dX7_byTimes_22 : decode cX7_byTimes 22 = .ok (.if_icmp .ge 68, 3) := by decide +kernel
theorem dX7_byTimes_25 : decode cX7_byTimes 25 = .ok (.aload_n 0, 1) := by decide +kernel
theorem dX7_byTimes_26 : decode cX7_byTimes 26 = .ok (.getfield 25, 3) := by decide +kernel
theorem dX7_byTimes_29 : decode cX7_byTimes 29 = .ok (.iload 5, 2) := by decide +kernel
theorem dX7_byTimes_31 : decode cX7_byTimes 31 = .ok (.iload_n 1, 1) := by decide +kernel
theorem dX7_byTimes_32 : decode cX7_byTimes 32 = .ok (.i2l, 1) := by decide +kernel
theorem dX7_byTimes_33 : decode cX7_byTimes 33 = .ok (.aload_n 0, 1) := by decide +kernel
theorem dX7_byTimes_34 : decode cX7_byTimes 34 = .ok (.getfield 7, 3) := by decide +kernel
theorem dX7_byTimes_37 : decode cX7_byTimes 37 = .ok (.bipush 8, 2) := by decide +kernel
theorem dX7_byTimes_39 : decode cX7_byTimes 39 = .ok (.iload 5, 2) := by decide +kernel
theorem dX7_byTimes_41 : decode cX7_byTimes 41 = .ok (.iadd, 1) := by decide +kernel
theorem dX7_byTimes_42 : decode cX7_byTimes 42 = .ok (.iaload, 1) := by decide +kernel
theorem dX7_byTimes_43 : decode cX7_byTimes 43 = .ok (.i2l, 1) := by decide +kernel
theorem dX7_byTimes_44 : decode cX7_byTimes 44 = .ok (.lmul, 1) := by decide +kernel
theorem dX7_byTimes_45 : decode cX7_byTimes 45 = .ok (.lload_n 2, 1) := by decide +kernel
theorem dX7_byTimes_46 : decode cX7_byTimes 46 = .ok (.ldiv, 1) := by decide +kernel
theorem dX7_byTimes_47 : decode cX7_byTimes 47 = .ok (.l2i, 1) := by decide +kernel
theorem dX7_byTimes_48 : decode cX7_byTimes 48 = .ok (.iastore, 1) := by decide +kernel
theorem dX7_byTimes_49 : decode cX7_byTimes 49 = .ok (.aload_n 0, 1) := by decide +kernel
theorem dX7_byTimes_50 : decode cX7_byTimes 50 = .ok (.getfield 28, 3) := by decide +kernel
theorem dX7_byTimes_53 : decode cX7_byTimes 53 = .ok (.iload 5, 2) := by decide +kernel
theorem dX7_byTimes_55 : decode cX7_byTimes 55 = .ok (.iload_n 1, 1) := by decide +kernel
theorem dX7_byTimes_56 : decode cX7_byTimes 56 = .ok (.i2l, 1) := by decide +kernel
theorem dX7_byTimes_57 : decode cX7_byTimes 57 = .ok (.aload_n 0, 1) := by decide +kernel
theorem dX7_byTimes_58 : decode cX7_byTimes 58 = .ok (.getfield 7, 3) := by decide +kernel
theorem dX7_byTimes_61 : decode cX7_byTimes 61 = .ok (.bipush 8, 2) := by decide +kernel
theorem dX7_byTimes_63 : decode cX7_byTimes 63 = .ok (.iload 5, 2) := by decide +kernel
theorem dX7_byTimes_65 : decode cX7_byTimes 65 = .ok (.iadd, 1) := by decide +kernel
theorem dX7_byTimes_66 : decode cX7_byTimes 66 = .ok (.iaload, 1) := by decide +kernel
theorem dX7_byTimes_67 : decode cX7_byTimes 67 = .ok (.i2l, 1) := by decide +kernel
theorem dX7_byTimes_68 : decode cX7_byTimes 68 = .ok (.lmul, 1) := by decide +kernel
theorem dX7_byTimes_69 : decode cX7_byTimes 69 = .ok (.lload_n 2, 1) := by decide +kernel
theorem dX7_byTimes_70 : decode cX7_byTimes 70 = .ok (.lrem, 1) := by decide +kernel
theorem dX7_byTimes_71 : decode cX7_byTimes 71 = .ok (.lastore, 1) := by decide +kernel
theorem dX7_byTimes_72 : decode cX7_byTimes 72 = .ok (.iload 4, 2) := by decide +kernel
theorem dX7_byTimes_74 : decode cX7_byTimes 74 = .ok (.aload_n 0, 1) := by decide +kernel
theorem dX7_byTimes_75 : decode cX7_byTimes 75 = .ok (.getfield 25, 3) := by decide +kernel
theorem dX7_byTimes_78 : decode cX7_byTimes 78 = .ok (.iload 5, 2) := by decide +kernel
theorem dX7_byTimes_80 : decode cX7_byTimes 80 = .ok (.iaload, 1) := by decide +kernel
theorem dX7_byTimes_81 : decode cX7_byTimes 81 = .ok (.isub, 1) := by decide +kernel
theorem dX7_byTimes_82 : decode cX7_byTimes 82 = .ok (.istore 4, 2) := by decide +kernel
theorem dX7_byTimes_84 : decode cX7_byTimes 84 = .ok (.iinc 5 1, 3) := by decide +kernel
theorem dX7_byTimes_87 : decode cX7_byTimes 87 = .ok (.goto (-68), 3) := by decide +kernel
theorem dX7_byTimes_90 : decode cX7_byTimes 90 = .ok (.iconst 0, 1) := by decide +kernel
theorem dX7_byTimes_91 : decode cX7_byTimes 91 = .ok (.istore 5, 2) := by decide +kernel
theorem dX7_byTimes_93 : decode cX7_byTimes 93 = .ok (.iload 5, 2) := by decide +kernel
theorem dX7_byTimes_95 : decode cX7_byTimes 95 = .ok (.iload 4, 2) := by decide +kernel
theorem dX7_byTimes_97 : decode cX7_byTimes 97 = .ok (.if_icmp .ge 75, 3) := by decide +kernel
theorem dX7_byTimes_100 : decode cX7_byTimes 100 = .ok (.iconst 0, 1) := by decide +kernel
theorem dX7_byTimes_101 : decode cX7_byTimes 101 = .ok (.istore 6, 2) := by decide +kernel
theorem dX7_byTimes_103 : decode cX7_byTimes 103 = .ok (.iconst 1, 1) := by decide +kernel
theorem dX7_byTimes_104 : decode cX7_byTimes 104 = .ok (.istore 7, 2) := by decide +kernel
theorem dX7_byTimes_106 : decode cX7_byTimes 106 = .ok (.iload 7, 2) := by decide +kernel
theorem dX7_byTimes_108 : decode cX7_byTimes 108 = .ok (.iload_n 1, 1) := by decide +kernel
theorem dX7_byTimes_109 : decode cX7_byTimes 109 = .ok (.if_icmp .ge 36, 3) := by decide +kernel
theorem dX7_byTimes_112 : decode cX7_byTimes 112 = .ok (.aload_n 0, 1) := by decide +kernel
theorem dX7_byTimes_113 : decode cX7_byTimes 113 = .ok (.getfield 28, 3) := by decide +kernel
theorem dX7_byTimes_116 : decode cX7_byTimes 116 = .ok (.iload 7, 2) := by decide +kernel
theorem dX7_byTimes_118 : decode cX7_byTimes 118 = .ok (.laload, 1) := by decide +kernel
theorem dX7_byTimes_119 : decode cX7_byTimes 119 = .ok (.aload_n 0, 1) := by decide +kernel
theorem dX7_byTimes_120 : decode cX7_byTimes 120 = .ok (.getfield 28, 3) := by decide +kernel
theorem dX7_byTimes_123 : decode cX7_byTimes 123 = .ok (.iload 6, 2) := by decide +kernel
theorem dX7_byTimes_125 : decode cX7_byTimes 125 = .ok (.laload, 1) := by decide +kernel
theorem dX7_byTimes_126 : decode cX7_byTimes 126 = .ok (.lcmp, 1) := by decide +kernel
theorem dX7_byTimes_127 : decode cX7_byTimes 127 = .ok (.ifCond .le 8, 3) := by decide +kernel
theorem dX7_byTimes_130 : decode cX7_byTimes 130 = .ok (.iload 7, 2) := by decide +kernel
theorem dX7_byTimes_132 : decode cX7_byTimes 132 = .ok (.goto 5, 3) := by decide +kernel
theorem dX7_byTimes_135 : decode cX7_byTimes 135 = .ok (.iload 6, 2) := by decide +kernel
theorem dX7_byTimes_137 : decode cX7_byTimes 137 = .ok (.istore 6, 2) := by decide +kernel
theorem dX7_byTimes_139 : decode cX7_byTimes 139 = .ok (.iinc 7 1, 3) := by decide +kernel
theorem dX7_byTimes_142 : decode cX7_byTimes 142 = .ok (.goto (-36), 3) := by decide +kernel
theorem dX7_byTimes_145 : decode cX7_byTimes 145 = .ok (.aload_n 0, 1) := by decide +kernel
theorem dX7_byTimes_146 : decode cX7_byTimes 146 = .ok (.getfield 28, 3) := by decide +kernel
theorem dX7_byTimes_149 : decode cX7_byTimes 149 = .ok (.iload 6, 2) := by decide +kernel
theorem dX7_byTimes_151 : decode cX7_byTimes 151 = .ok (.ldc2_w 65, 3) := by decide +kernel
theorem dX7_byTimes_154 : decode cX7_byTimes 154 = .ok (.lastore, 1) := by decide +kernel
theorem dX7_byTimes_155 : decode cX7_byTimes 155 = .ok (.aload_n 0, 1) := by decide +kernel
theorem dX7_byTimes_156 : decode cX7_byTimes 156 = .ok (.getfield 25, 3) := by decide +kernel
theorem dX7_byTimes_159 : decode cX7_byTimes 159 = .ok (.iload 6, 2) := by decide +kernel
theorem dX7_byTimes_161 : decode cX7_byTimes 161 = .ok (.dup2, 1) := by decide +kernel
theorem dX7_byTimes_162 : decode cX7_byTimes 162 = .ok (.iaload, 1) := by decide +kernel
theorem dX7_byTimes_163 : decode cX7_byTimes 163 = .ok (.iconst 1, 1) := by decide +kernel
theorem dX7_byTimes_164 : decode cX7_byTimes 164 = .ok (.iadd, 1) := by decide +kernel
theorem dX7_byTimes_165 : decode cX7_byTimes 165 = .ok (.iastore, 1) := by decide +kernel
theorem dX7_byTimes_166 : decode cX7_byTimes 166 = .ok (.iinc 5 1, 3) := by decide +kernel
theorem dX7_byTimes_169 : decode cX7_byTimes 169 = .ok (.goto (-76), 3) := by decide +kernel
theorem dX7_byTimes_172 : decode cX7_byTimes 172 = .ok (.iconst 0, 1) := by decide +kernel
theorem dX7_byTimes_173 : decode cX7_byTimes 173 = .ok (.istore 5, 2) := by decide +kernel
theorem dX7_byTimes_175 : decode cX7_byTimes 175 = .ok (.iconst 0, 1) := by decide +kernel
theorem dX7_byTimes_176 : decode cX7_byTimes 176 = .ok (.istore 6, 2) := by decide +kernel
theorem dX7_byTimes_178 : decode cX7_byTimes 178 = .ok (.iload 6, 2) := by decide +kernel
theorem dX7_byTimes_180 : decode cX7_byTimes 180 = .ok (.iload_n 1, 1) := by decide +kernel
theorem dX7_byTimes_181 : decode cX7_byTimes 181 = .ok (.if_icmp .ge 42, 3) := by decide +kernel
theorem dX7_byTimes_184 : decode cX7_byTimes 184 = .ok (.iconst 0, 1) := by decide +kernel
theorem dX7_byTimes_185 : decode cX7_byTimes 185 = .ok (.istore 7, 2) := by decide +kernel
theorem dX7_byTimes_187 : decode cX7_byTimes 187 = .ok (.iload 7, 2) := by decide +kernel
theorem dX7_byTimes_189 : decode cX7_byTimes 189 = .ok (.aload_n 0, 1) := by decide +kernel
theorem dX7_byTimes_190 : decode cX7_byTimes 190 = .ok (.getfield 25, 3) := by decide +kernel
theorem dX7_byTimes_193 : decode cX7_byTimes 193 = .ok (.iload 6, 2) := by decide +kernel
theorem dX7_byTimes_195 : decode cX7_byTimes 195 = .ok (.iaload, 1) := by decide +kernel
theorem dX7_byTimes_196 : decode cX7_byTimes 196 = .ok (.if_icmp .ge 21, 3) := by decide +kernel
theorem dX7_byTimes_199 : decode cX7_byTimes 199 = .ok (.aload_n 0, 1) := by decide +kernel
theorem dX7_byTimes_200 : decode cX7_byTimes 200 = .ok (.getfield 22, 3) := by decide +kernel
theorem dX7_byTimes_203 : decode cX7_byTimes 203 = .ok (.iload 5, 2) := by decide +kernel
theorem dX7_byTimes_205 : decode cX7_byTimes 205 = .ok (.iload 6, 2) := by decide +kernel
theorem dX7_byTimes_207 : decode cX7_byTimes 207 = .ok (.iastore, 1) := by decide +kernel
theorem dX7_byTimes_208 : decode cX7_byTimes 208 = .ok (.iinc 5 1, 3) := by decide +kernel
theorem dX7_byTimes_211 : decode cX7_byTimes 211 = .ok (.iinc 7 1, 3) := by decide +kernel
theorem dX7_byTimes_214 : decode cX7_byTimes 214 = .ok (.goto (-27), 3) := by decide +kernel
theorem dX7_byTimes_217 : decode cX7_byTimes 217 = .ok (.iinc 6 1, 3) := by decide +kernel
theorem dX7_byTimes_220 : decode cX7_byTimes 220 = .ok (.goto (-42), 3) := by decide +kernel
theorem dX7_byTimes_223 : decode cX7_byTimes 223 = .ok (.return_, 1) := by decide +kernel
set_option maxRecDepth 20000 in
theorem ggX7_chooses_X7_byTimes : GoodIn wsX7_chooses wsX7_byTimes := goodIn_r _ [5, 6, 7, 8, 9, 10, 11, 12, 13, 4, 14, 25, 26, 27, 28, 29, 30, 31, 32, 33, 34, 35, 36, 37, 38, 39, 40, 41, 42] (by decide +kernel) (by decide +kernel)
set_option maxRecDepth 20000 in
theorem gX7_chooses_X7_byTimes : GoodIn wsX7_chooses (wsV RX7 67 RX7 yX7_byTimes wsX7_byTimes) := goodIn_app (goodIn_of _ (by decide +kernel)) ggX7_chooses_X7_byTimes
set_option maxRecDepth 20000 in
theorem ggX7_chooses_X7_byPoints : GoodIn wsX7_chooses wsX7_byPoints := goodIn_r _ [18, 6, 19, 10, 11, 12, 13, 4, 14, 20, 21, 22, 23, 24, 25, 26, 27, 28, 29, 30, 31, 32, 33, 34, 35, 36, 37, 38, 39, 40, 41, 42] (by decide +kernel) (by decide +kernel)
set_option maxRecDepth 20000 in
theorem gX7_chooses_X7_byPoints : GoodIn wsX7_chooses (wsV RX7 70 RX7 yX7_byPoints wsX7_byPoints) := goodIn_app (goodIn_of _ (by decide +kernel)) ggX7_chooses_X7_byPoints
theorem dX7_chooses_0 : decode cX7_chooses 0 = .ok (.iload_n 1, 1) := by decide +kernel
theorem dX7_chooses_1 : decode cX7_chooses 1 = .ok (.iconst 2, 1) := by decide +kernel
theorem dX7_chooses_2 : decode cX7_chooses 2 = .ok (.if_icmp .ne 10, 3) := by decide +kernel
theorem dX7_chooses_5 : decode cX7_chooses 5 = .ok (.aload_n 0, 1) := by decide +kernel
theorem dX7_chooses_6 : decode cX7_chooses 6 = .ok (.invokevirtual 67, 3) := by decide +kernel
theorem dX7_chooses_9 : decode cX7_chooses 9 = .ok (.goto 8, 3) := by decide +kernel
theorem dX7_chooses_12 : decode cX7_chooses 12 = .ok (.aload_n 0, 1) := by decide +kernel
theorem dX7_chooses_13 : decode cX7_chooses 13 = .ok (.iload_n 1, 1) := by decide +kernel
theorem dX7_chooses_14 : decode cX7_chooses 14 = .ok (.invokevirtual 70, 3) := by decide +kernel
theorem dX7_chooses_17 : decode cX7_chooses 17 = .ok (.return_, 1) := by decide +kernel
theorem dX7_follows_0 : decode cX7_follows 0 = .ok (.aload_n 0, 1) := by decide +kernel
theorem dX7_follows_1 : decode cX7_follows 1 = .ok (.getfield 7, 3) := by decide +kernel
theorem dX7_follows_4 : decode cX7_follows 4 = .ok (.iconst 1, 1) := by decide +kernel
theorem dX7_follows_5 : decode cX7_follows 5 = .ok (.iaload, 1) := by decide +kernel
theorem dX7_follows_6 : decode cX7_follows 6 = .ok (.istore 5, 2) := by decide +kernel
theorem dX7_follows_8 : decode cX7_follows 8 = .ok (.bipush 20, 2) := by decide +kernel
theorem dX7_follows_10 : decode cX7_follows 10 = .ok (.iconst 4, 1) := by decide +kernel
theorem dX7_follows_11 : decode cX7_follows 11 = .ok (.iload 5, 2) := by decide +kernel
theorem dX7_follows_13 : decode cX7_follows 13 = .ok (.imul, 1) := by decide +kernel
theorem dX7_follows_14 : decode cX7_follows 14 = .ok (.iadd, 1) := by decide +kernel
theorem dX7_follows_15 : decode cX7_follows 15 = .ok (.istore 6, 2) := by decide +kernel
theorem dX7_follows_17 : decode cX7_follows 17 = .ok (.aload_n 0, 1) := by decide +kernel
theorem dX7_follows_18 : decode cX7_follows 18 = .ok (.getfield 7, 3) := by decide +kernel
theorem dX7_follows_21 : decode cX7_follows 21 = .ok (.iload 6, 2) := by decide +kernel
theorem dX7_follows_23 : decode cX7_follows 23 = .ok (.iload_n 1, 1) := by decide +kernel
theorem dX7_follows_24 : decode cX7_follows 24 = .ok (.iastore, 1) := by decide +kernel
theorem dX7_follows_25 : decode cX7_follows 25 = .ok (.aload_n 0, 1) := by decide +kernel
theorem dX7_follows_26 : decode cX7_follows 26 = .ok (.getfield 7, 3) := by decide +kernel
theorem dX7_follows_29 : decode cX7_follows 29 = .ok (.iload 6, 2) := by decide +kernel
theorem dX7_follows_31 : decode cX7_follows 31 = .ok (.iconst 1, 1) := by decide +kernel
theorem dX7_follows_32 : decode cX7_follows 32 = .ok (.iadd, 1) := by decide +kernel
theorem dX7_follows_33 : decode cX7_follows 33 = .ok (.iload_n 2, 1) := by decide +kernel
theorem dX7_follows_34 : decode cX7_follows 34 = .ok (.iastore, 1) := by decide +kernel
theorem dX7_follows_35 : decode cX7_follows 35 = .ok (.aload_n 0, 1) := by decide +kernel
theorem dX7_follows_36 : decode cX7_follows 36 = .ok (.getfield 7, 3) := by decide +kernel
theorem dX7_follows_39 : decode cX7_follows 39 = .ok (.iload 6, 2) := by decide +kernel
theorem dX7_follows_41 : decode cX7_follows 41 = .ok (.iconst 2, 1) := by decide +kernel
theorem dX7_follows_42 : decode cX7_follows 42 = .ok (.iadd, 1) := by decide +kernel
theorem dX7_follows_43 : decode cX7_follows 43 = .ok (.iload_n 3, 1) := by decide +kernel
theorem dX7_follows_44 : decode cX7_follows 44 = .ok (.iastore, 1) := by decide +kernel
theorem dX7_follows_45 : decode cX7_follows 45 = .ok (.aload_n 0, 1) := by decide +kernel
theorem dX7_follows_46 : decode cX7_follows 46 = .ok (.getfield 7, 3) := by decide +kernel
theorem dX7_follows_49 : decode cX7_follows 49 = .ok (.iload 6, 2) := by decide +kernel
theorem dX7_follows_51 : decode cX7_follows 51 = .ok (.iconst 3, 1) := by decide +kernel
theorem dX7_follows_52 : decode cX7_follows 52 = .ok (.iadd, 1) := by decide +kernel
theorem dX7_follows_53 : decode cX7_follows 53 = .ok (.iload 4, 2) := by decide +kernel
theorem dX7_follows_55 : decode cX7_follows 55 = .ok (.iastore, 1) := by decide +kernel
theorem dX7_follows_56 : decode cX7_follows 56 = .ok (.aload_n 0, 1) := by decide +kernel
theorem dX7_follows_57 : decode cX7_follows 57 = .ok (.getfield 7, 3) := by decide +kernel
theorem dX7_follows_60 : decode cX7_follows 60 = .ok (.iconst 1, 1) := by decide +kernel
theorem dX7_follows_61 : decode cX7_follows 61 = .ok (.dup2, 1) := by decide +kernel
theorem dX7_follows_62 : decode cX7_follows 62 = .ok (.iaload, 1) := by decide +kernel
theorem dX7_follows_63 : decode cX7_follows 63 = .ok (.iconst 1, 1) := by decide +kernel
theorem dX7_follows_64 : decode cX7_follows 64 = .ok (.iadd, 1) := by decide +kernel
theorem dX7_follows_65 : decode cX7_follows 65 = .ok (.iastore, 1) := by decide +kernel
theorem dX7_follows_66 : decode cX7_follows 66 = .ok (.iload 5, 2) := by decide +kernel
theorem dX7_follows_68 : decode cX7_follows 68 = .ok (.ireturn, 1) := by decide +kernel
set_option maxRecDepth 20000 in
theorem ggX7_resamples_X7_chooses : GoodIn wsX7_resamples wsX7_chooses := goodIn_r _ [7, 8, 9, 10, 6, 11, 1, 12, 13, 14, 2, 15, 16, 17, 18, 19, 20, 21, 22, 23, 24, 25, 26, 27, 28, 37, 38, 39, 40, 41, 42, 43, 44, 45, 46, 47, 48, 49, 50, 51, 52, 53, 54] (by decide +kernel) (by decide +kernel)
set_option maxRecDepth 20000 in
theorem gX7_resamples_X7_chooses : GoodIn wsX7_resamples (wsV RX7 74 RX7 yX7_chooses wsX7_chooses) := goodIn_app (goodIn_of _ (by decide +kernel)) ggX7_resamples_X7_chooses
set_option maxRecDepth 20000 in
theorem ggX7_resamples_X7_follows : GoodIn wsX7_resamples wsX7_follows := goodIn_r _ [32, 1, 37, 38, 39, 40, 41, 42, 43, 44, 45, 46, 47, 48, 49, 50, 51, 52, 53, 54] (by decide +kernel) (by decide +kernel)
set_option maxRecDepth 20000 in
theorem gX7_resamples_X7_follows : GoodIn wsX7_resamples (wsV RX7 77 RX7 yX7_follows wsX7_follows) := goodIn_app (goodIn_of _ (by decide +kernel)) ggX7_resamples_X7_follows
set_option maxRecDepth 20000 in
theorem ggX7_resamples_X7_placeIn : GoodIn wsX7_resamples wsX7_placeIn := goodIn_r _ [36, 1, 37, 38, 39, 40, 41, 42, 43, 44, 45, 46, 47, 48, 49, 50, 51, 52, 53, 54] (by decide +kernel) (by decide +kernel)
set_option maxRecDepth 20000 in
theorem gX7_resamples_X7_placeIn : GoodIn wsX7_resamples (wsV RX7 81 RX7 yX7_placeIn wsX7_placeIn) := goodIn_app (goodIn_of _ (by decide +kernel)) ggX7_resamples_X7_placeIn
theorem dX7_resamples_0 : decode cX7_resamples 0 = .ok (.aload_n 0, 1) := by decide +kernel
theorem dX7_resamples_1 : decode cX7_resamples 1 = .ok (.aload_n 0, 1) := by decide +kernel
theorem dX7_resamples_2 : decode cX7_resamples 2 = .ok (.getfield 7, 3) := by decide +kernel
theorem dX7_resamples_5 : decode cX7_resamples 5 = .ok (.bipush 6, 2) := by decide +kernel
theorem dX7_resamples_7 : decode cX7_resamples 7 = .ok (.iaload, 1) := by decide +kernel
theorem dX7_resamples_8 : decode cX7_resamples 8 = .ok (.invokevirtual 74, 3) := by decide +kernel
theorem dX7_resamples_11 : decode cX7_resamples 11 = .ok (.aload_n 0, 1) := by decide +kernel
theorem dX7_resamples_12 : decode cX7_resamples 12 = .ok (.iconst 2, 1) := by decide +kernel
theorem dX7_resamples_13 : decode cX7_resamples 13 = .ok (.iconst 0, 1) := by decide +kernel
theorem dX7_resamples_14 : decode cX7_resamples 14 = .ok (.iconst 0, 1) := by decide +kernel
theorem dX7_resamples_15 : decode cX7_resamples 15 = .ok (.aload_n 0, 1) := by decide +kernel
theorem dX7_resamples_16 : decode cX7_resamples 16 = .ok (.getfield 7, 3) := by decide +kernel
theorem dX7_resamples_19 : decode cX7_resamples 19 = .ok (.bipush 6, 2) := by decide +kernel
theorem dX7_resamples_21 : decode cX7_resamples 21 = .ok (.iaload, 1) := by decide +kernel
theorem dX7_resamples_22 : decode cX7_resamples 22 = .ok (.invokevirtual 77, 3) := by decide +kernel
theorem dX7_resamples_25 : decode cX7_resamples 25 = .ok (.istore_n 1, 1) := by decide +kernel
theorem dX7_resamples_26 : decode cX7_resamples 26 = .ok (.iconst 0, 1) := by decide +kernel
theorem dX7_resamples_27 : decode cX7_resamples 27 = .ok (.istore_n 2, 1) := by decide +kernel
theorem dX7_resamples_28 : decode cX7_resamples 28 = .ok (.iload_n 2, 1) := by decide +kernel
theorem dX7_resamples_29 : decode cX7_resamples 29 = .ok (.aload_n 0, 1) := by decide +kernel
theorem dX7_resamples_30 : decode cX7_resamples 30 = .ok (.getfield 7, 3) := by decide +kernel
theorem dX7_resamples_33 : decode cX7_resamples 33 = .ok (.iconst 0, 1) := by decide +kernel
theorem dX7_resamples_34 : decode cX7_resamples 34 = .ok (.iaload, 1) := by decide +kernel
theorem dX7_resamples_35 : decode cX7_resamples 35 = .ok (.if_icmp .ge 67, 3) := by decide +kernel
theorem dX7_resamples_38 : decode cX7_resamples 38 = .ok (.aload_n 0, 1) := by decide +kernel
theorem dX7_resamples_39 : decode cX7_resamples 39 = .ok (.getfield 7, 3) := by decide +kernel
theorem dX7_resamples_42 : decode cX7_resamples 42 = .ok (.bipush 100, 2) := by decide +kernel
theorem dX7_resamples_44 : decode cX7_resamples 44 = .ok (.bipush 12, 2) := by decide +kernel
theorem dX7_resamples_46 : decode cX7_resamples 46 = .ok (.iload_n 1, 1) := by decide +kernel
theorem dX7_resamples_47 : decode cX7_resamples 47 = .ok (.imul, 1) := by decide +kernel
theorem dX7_resamples_48 : decode cX7_resamples 48 = .ok (.iadd, 1) := by decide +kernel
theorem dX7_resamples_49 : decode cX7_resamples 49 = .ok (.iload_n 2, 1) := by decide +kernel
theorem dX7_resamples_50 : decode cX7_resamples 50 = .ok (.iadd, 1) := by decide +kernel
theorem dX7_resamples_51 : decode cX7_resamples 51 = .ok (.aload_n 0, 1) := by decide +kernel
theorem dX7_resamples_52 : decode cX7_resamples 52 = .ok (.getfield 22, 3) := by decide +kernel
theorem dX7_resamples_55 : decode cX7_resamples 55 = .ok (.iload_n 2, 1) := by decide +kernel
theorem dX7_resamples_56 : decode cX7_resamples 56 = .ok (.iaload, 1) := by decide +kernel
theorem dX7_resamples_57 : decode cX7_resamples 57 = .ok (.iastore, 1) := by decide +kernel
theorem dX7_resamples_58 : decode cX7_resamples 58 = .ok (.aload_n 0, 1) := by decide +kernel
theorem dX7_resamples_59 : decode cX7_resamples 59 = .ok (.getfield 7, 3) := by decide +kernel
theorem dX7_resamples_62 : decode cX7_resamples 62 = .ok (.sipush 340, 3) := by decide +kernel
theorem dX7_resamples_65 : decode cX7_resamples 65 = .ok (.bipush 12, 2) := by decide +kernel
theorem dX7_resamples_67 : decode cX7_resamples 67 = .ok (.iload_n 1, 1) := by decide +kernel
theorem dX7_resamples_68 : decode cX7_resamples 68 = .ok (.imul, 1) := by decide +kernel
theorem dX7_resamples_69 : decode cX7_resamples 69 = .ok (.iadd, 1) := by decide +kernel
theorem dX7_resamples_70 : decode cX7_resamples 70 = .ok (.iload_n 2, 1) := by decide +kernel
theorem dX7_resamples_71 : decode cX7_resamples 71 = .ok (.iadd, 1) := by decide +kernel
theorem dX7_resamples_72 : decode cX7_resamples 72 = .ok (.aload_n 0, 1) := by decide +kernel
theorem dX7_resamples_73 : decode cX7_resamples 73 = .ok (.iload_n 1, 1) := by decide +kernel
theorem dX7_resamples_74 : decode cX7_resamples 74 = .ok (.iconst 1, 1) := by decide +kernel
theorem dX7_resamples_75 : decode cX7_resamples 75 = .ok (.isub, 1) := by decide +kernel
theorem dX7_resamples_76 : decode cX7_resamples 76 = .ok (.aload_n 0, 1) := by decide +kernel
theorem dX7_resamples_77 : decode cX7_resamples 77 = .ok (.getfield 22, 3) := by decide +kernel
theorem dX7_resamples_80 : decode cX7_resamples 80 = .ok (.iload_n 2, 1) := by decide +kernel
theorem dX7_resamples_81 : decode cX7_resamples 81 = .ok (.iaload, 1) := by decide +kernel
theorem dX7_resamples_82 : decode cX7_resamples 82 = .ok (.invokevirtual 81, 3) := by decide +kernel
theorem dX7_resamples_85 : decode cX7_resamples 85 = .ok (.iastore, 1) := by decide +kernel
theorem dX7_resamples_86 : decode cX7_resamples 86 = .ok (.aload_n 0, 1) := by decide +kernel
theorem dX7_resamples_87 : decode cX7_resamples 87 = .ok (.getfield 7, 3) := by decide +kernel
theorem dX7_resamples_90 : decode cX7_resamples 90 = .ok (.bipush 8, 2) := by decide +kernel
theorem dX7_resamples_92 : decode cX7_resamples 92 = .ok (.iload_n 2, 1) := by decide +kernel
theorem dX7_resamples_93 : decode cX7_resamples 93 = .ok (.iadd, 1) := by decide +kernel
theorem dX7_resamples_94 : decode cX7_resamples 94 = .ok (.iconst 1, 1) := by decide +kernel
theorem dX7_resamples_95 : decode cX7_resamples 95 = .ok (.iastore, 1) := by decide +kernel
theorem dX7_resamples_96 : decode cX7_resamples 96 = .ok (.iinc 2 1, 3) := by decide +kernel
theorem dX7_resamples_99 : decode cX7_resamples 99 = .ok (.goto (-71), 3) := by decide +kernel
theorem dX7_resamples_102 : decode cX7_resamples 102 = .ok (.aload_n 0, 1) := by decide +kernel
theorem dX7_resamples_103 : decode cX7_resamples 103 = .ok (.getfield 7, 3) := by decide +kernel
theorem dX7_resamples_106 : decode cX7_resamples 106 = .ok (.iconst 4, 1) := by decide +kernel
theorem dX7_resamples_107 : decode cX7_resamples 107 = .ok (.dup2, 1) := by decide +kernel
theorem dX7_resamples_108 : decode cX7_resamples 108 = .ok (.iaload, 1) := by decide +kernel
theorem dX7_resamples_109 : decode cX7_resamples 109 = .ok (.iconst 1, 1) := by decide +kernel
theorem dX7_resamples_110 : decode cX7_resamples 110 = .ok (.iadd, 1) := by decide +kernel
theorem dX7_resamples_111 : decode cX7_resamples 111 = .ok (.iastore, 1) := by decide +kernel
theorem dX7_resamples_112 : decode cX7_resamples 112 = .ok (.return_, 1) := by decide +kernel
set_option maxRecDepth 20000 in
theorem ggX7_begin_X7_in : GoodIn wsX7_begin wsX7_in := goodIn_r _ [6] (by decide +kernel) (by decide +kernel)
set_option maxRecDepth 20000 in
theorem gX7_begin_X7_in : GoodIn wsX7_begin (va_wsS RX7 84 yX7_in wsX7_in) := goodIn_app (goodIn_of _ (by decide +kernel)) ggX7_begin_X7_in
set_option maxRecDepth 20000 in
theorem ggX7_begin_X7_changes : GoodIn wsX7_begin wsX7_changes := goodIn_r _ [10, 11, 12, 13, 2, 19, 20, 21, 22, 23, 24, 25, 26, 27, 28, 29, 30, 31, 32, 33, 34, 35, 36] (by decide +kernel) (by decide +kernel)
set_option maxRecDepth 20000 in
theorem gX7_begin_X7_changes : GoodIn wsX7_begin (wsV RX7 89 RX7 yX7_changes wsX7_changes) := goodIn_app (goodIn_of _ (by decide +kernel)) ggX7_begin_X7_changes
set_option maxRecDepth 20000 in
theorem ggX7_begin_X7_lays : GoodIn wsX7_begin wsX7_lays := goodIn_r _ [17, 2, 18, 19, 20, 21, 22, 23, 24, 25, 26, 27, 28, 29, 30, 31, 32, 33, 34, 35, 36] (by decide +kernel) (by decide +kernel)
set_option maxRecDepth 20000 in
theorem gX7_begin_X7_lays : GoodIn wsX7_begin (wsV RX7 38 RX7 yX7_lays wsX7_lays) := goodIn_app (goodIn_of _ (by decide +kernel)) ggX7_begin_X7_lays
theorem dX7_begin_0 : decode cX7_begin 0 = .ok (.iload_n 1, 1) := by decide +kernel
theorem dX7_begin_1 : decode cX7_begin 1 = .ok (.iconst 1, 1) := by decide +kernel
theorem dX7_begin_2 : decode cX7_begin 2 = .ok (.bipush 12, 2) := by decide +kernel
theorem dX7_begin_4 : decode cX7_begin 4 = .ok (.invokestatic 84, 3) := by decide +kernel
theorem dX7_begin_7 : decode cX7_begin 7 = .ok (.ifCond .eq 23, 3) := by decide +kernel
theorem dX7_begin_10 : decode cX7_begin 10 = .ok (.iload_n 2, 1) := by decide +kernel
theorem dX7_begin_11 : decode cX7_begin 11 = .ok (.iconst 0, 1) := by decide +kernel
theorem dX7_begin_12 : decode cX7_begin 12 = .ok (.bipush 99, 2) := by decide +kernel
theorem dX7_begin_14 : decode cX7_begin 14 = .ok (.invokestatic 84, 3) := by decide +kernel
theorem dX7_begin_17 : decode cX7_begin 17 = .ok (.ifCond .eq 13, 3) := by decide +kernel
theorem dX7_begin_20 : decode cX7_begin 20 = .ok (.iload_n 3, 1) := by decide +kernel
theorem dX7_begin_21 : decode cX7_begin 21 = .ok (.iconst 0, 1) := by decide +kernel
theorem dX7_begin_22 : decode cX7_begin 22 = .ok (.bipush 99, 2) := by decide +kernel
theorem dX7_begin_24 : decode cX7_begin 24 = .ok (.invokestatic 84, 3) := by decide +kernel
theorem dX7_begin_27 : decode cX7_begin 27 = .ok (.ifCond .ne 6, 3) := by decide +kernel
theorem dX7_begin_30 : decode cX7_begin 30 = .ok (.ldc 88, 2) := by decide +kernel
theorem dX7_begin_32 : decode cX7_begin 32 = .ok (.ireturn, 1) := by decide +kernel
theorem dX7_begin_33 : decode cX7_begin 33 = .ok (.aload_n 0, 1) := by decide +kernel
theorem dX7_begin_34 : decode cX7_begin 34 = .ok (.invokevirtual 89, 3) := by decide +kernel
theorem dX7_begin_37 : decode cX7_begin 37 = .ok (.aload_n 0, 1) := by decide +kernel
theorem dX7_begin_38 : decode cX7_begin 38 = .ok (.getfield 7, 3) := by decide +kernel
theorem dX7_begin_41 : decode cX7_begin 41 = .ok (.iconst 1, 1) := by decide +kernel
theorem dX7_begin_42 : decode cX7_begin 42 = .ok (.iaload, 1) := by decide +kernel
theorem dX7_begin_43 : decode cX7_begin 43 = .ok (.istore 4, 2) := by decide +kernel
theorem dX7_begin_45 : decode cX7_begin 45 = .ok (.aload_n 0, 1) := by decide +kernel
theorem dX7_begin_46 : decode cX7_begin 46 = .ok (.iload_n 1, 1) := by decide +kernel
theorem dX7_begin_47 : decode cX7_begin 47 = .ok (.iload_n 2, 1) := by decide +kernel
theorem dX7_begin_48 : decode cX7_begin 48 = .ok (.iload_n 3, 1) := by decide +kernel
theorem dX7_begin_49 : decode cX7_begin 49 = .ok (.invokevirtual 38, 3) := by decide +kernel
theorem dX7_begin_52 : decode cX7_begin 52 = .ok (.iload 4, 2) := by decide +kernel
theorem dX7_begin_54 : decode cX7_begin 54 = .ok (.ireturn, 1) := by decide +kernel
set_option maxRecDepth 20000 in
theorem ggX7_weigh_X7_isParticle : GoodIn wsX7_weigh wsX7_isParticle := goodIn_r _ [9, 3, 31, 32, 33, 34, 35, 36, 37, 38, 39, 40, 41, 42, 43, 44, 45, 46, 47, 48] (by decide +kernel) (by decide +kernel)
set_option maxRecDepth 20000 in
theorem gX7_weigh_X7_isParticle : GoodIn wsX7_weigh (wsV RX7 92 RX7 yX7_isParticle wsX7_isParticle) := goodIn_app (goodIn_of _ (by decide +kernel)) ggX7_weigh_X7_isParticle
set_option maxRecDepth 20000 in
theorem ggX7_weigh_X7_in : GoodIn wsX7_weigh wsX7_in := goodIn_r _ [12] (by decide +kernel) (by decide +kernel)
set_option maxRecDepth 20000 in
theorem gX7_weigh_X7_in : GoodIn wsX7_weigh (va_wsS RX7 84 yX7_in wsX7_in) := goodIn_app (goodIn_of _ (by decide +kernel)) ggX7_weigh_X7_in
set_option maxRecDepth 20000 in
theorem ggX7_weigh_X7_sum : GoodIn wsX7_weigh wsX7_sum := goodIn_r _ [16, 3, 31, 32, 33, 34, 35, 36, 37, 38, 39, 40, 41, 42, 43, 44, 45, 46, 47, 48] (by decide +kernel) (by decide +kernel)
set_option maxRecDepth 20000 in
theorem gX7_weigh_X7_sum : GoodIn wsX7_weigh (wsV RX7 52 RX7 yX7_sum wsX7_sum) := goodIn_app (goodIn_of _ (by decide +kernel)) ggX7_weigh_X7_sum
set_option maxRecDepth 20000 in
theorem ggX7_weigh_X7_changes : GoodIn wsX7_weigh wsX7_changes := goodIn_r _ [20, 21, 22, 23, 3, 31, 32, 33, 34, 35, 36, 37, 38, 39, 40, 41, 42, 43, 44, 45, 46, 47, 48] (by decide +kernel) (by decide +kernel)
set_option maxRecDepth 20000 in
theorem gX7_weigh_X7_changes : GoodIn wsX7_weigh (wsV RX7 89 RX7 yX7_changes wsX7_changes) := goodIn_app (goodIn_of _ (by decide +kernel)) ggX7_weigh_X7_changes
set_option maxRecDepth 20000 in
theorem ggX7_weigh_X7_divides : GoodIn wsX7_weigh wsX7_divides := goodIn_r _ [27, 3, 28, 29, 8, 30, 31, 32, 33, 34, 35, 36, 37, 38, 39, 40, 41, 42, 43, 44, 45, 46, 47, 48] (by decide +kernel) (by decide +kernel)
set_option maxRecDepth 20000 in
theorem gX7_weigh_X7_divides : GoodIn wsX7_weigh (wsV RX7 98 RX7 yX7_divides wsX7_divides) := goodIn_app (goodIn_of _ (by decide +kernel)) ggX7_weigh_X7_divides
theorem dX7_weigh_0 : decode cX7_weigh 0 = .ok (.aload_n 0, 1) := by decide +kernel
theorem dX7_weigh_1 : decode cX7_weigh 1 = .ok (.iload_n 1, 1) := by decide +kernel
theorem dX7_weigh_2 : decode cX7_weigh 2 = .ok (.invokevirtual 92, 3) := by decide +kernel
theorem dX7_weigh_5 : decode cX7_weigh 5 = .ok (.ifCond .eq 13, 3) := by decide +kernel
theorem dX7_weigh_8 : decode cX7_weigh 8 = .ok (.iload_n 2, 1) := by decide +kernel
theorem dX7_weigh_9 : decode cX7_weigh 9 = .ok (.iconst 0, 1) := by decide +kernel
theorem dX7_weigh_10 : decode cX7_weigh 10 = .ok (.ldc 96, 2) := by decide +kernel
theorem dX7_weigh_12 : decode cX7_weigh 12 = .ok (.invokestatic 84, 3) := by decide +kernel
theorem dX7_weigh_15 : decode cX7_weigh 15 = .ok (.ifCond .ne 6, 3) := by decide +kernel
theorem dX7_weigh_18 : decode cX7_weigh 18 = .ok (.ldc 88, 2) := by decide +kernel
theorem dX7_weigh_20 : decode cX7_weigh 20 = .ok (.ireturn, 1) := by decide +kernel
theorem dX7_weigh_21 : decode cX7_weigh 21 = .ok (.iload_n 2, 1) := by decide +kernel
theorem dX7_weigh_22 : decode cX7_weigh 22 = .ok (.aload_n 0, 1) := by decide +kernel
theorem dX7_weigh_23 : decode cX7_weigh 23 = .ok (.invokevirtual 52, 3) := by decide +kernel
theorem dX7_weigh_26 : decode cX7_weigh 26 = .ok (.iadd, 1) := by decide +kernel
theorem dX7_weigh_27 : decode cX7_weigh 27 = .ok (.aload_n 0, 1) := by decide +kernel
theorem dX7_weigh_28 : decode cX7_weigh 28 = .ok (.getfield 7, 3) := by decide +kernel
theorem dX7_weigh_31 : decode cX7_weigh 31 = .ok (.bipush 8, 2) := by decide +kernel
theorem dX7_weigh_33 : decode cX7_weigh 33 = .ok (.iload_n 1, 1) := by decide +kernel
theorem dX7_weigh_34 : decode cX7_weigh 34 = .ok (.iadd, 1) := by decide +kernel
theorem dX7_weigh_35 : decode cX7_weigh 35 = .ok (.iaload, 1) := by decide +kernel
theorem dX7_weigh_36 : decode cX7_weigh 36 = .ok (.isub, 1) := by decide +kernel
theorem dX7_weigh_37 : decode cX7_weigh 37 = .ok (.ifCond .ne 6, 3) := by decide +kernel
theorem dX7_weigh_40 : decode cX7_weigh 40 = .ok (.ldc 97, 2) := by decide +kernel
theorem dX7_weigh_42 : decode cX7_weigh 42 = .ok (.ireturn, 1) := by decide +kernel
theorem dX7_weigh_43 : decode cX7_weigh 43 = .ok (.aload_n 0, 1) := by decide +kernel
theorem dX7_weigh_44 : decode cX7_weigh 44 = .ok (.invokevirtual 89, 3) := by decide +kernel
theorem dX7_weigh_47 : decode cX7_weigh 47 = .ok (.aload_n 0, 1) := by decide +kernel
theorem dX7_weigh_48 : decode cX7_weigh 48 = .ok (.getfield 7, 3) := by decide +kernel
theorem dX7_weigh_51 : decode cX7_weigh 51 = .ok (.bipush 8, 2) := by decide +kernel
theorem dX7_weigh_53 : decode cX7_weigh 53 = .ok (.iload_n 1, 1) := by decide +kernel
theorem dX7_weigh_54 : decode cX7_weigh 54 = .ok (.iadd, 1) := by decide +kernel
theorem dX7_weigh_55 : decode cX7_weigh 55 = .ok (.iload_n 2, 1) := by decide +kernel
theorem dX7_weigh_56 : decode cX7_weigh 56 = .ok (.iastore, 1) := by decide +kernel
theorem dX7_weigh_57 : decode cX7_weigh 57 = .ok (.aload_n 0, 1) := by decide +kernel
theorem dX7_weigh_58 : decode cX7_weigh 58 = .ok (.invokevirtual 98, 3) := by decide +kernel
theorem dX7_weigh_61 : decode cX7_weigh 61 = .ok (.pop, 1) := by decide +kernel
theorem dX7_weigh_62 : decode cX7_weigh 62 = .ok (.aload_n 0, 1) := by decide +kernel
theorem dX7_weigh_63 : decode cX7_weigh 63 = .ok (.getfield 7, 3) := by decide +kernel
theorem dX7_weigh_66 : decode cX7_weigh 66 = .ok (.bipush 8, 2) := by decide +kernel
theorem dX7_weigh_68 : decode cX7_weigh 68 = .ok (.iload_n 1, 1) := by decide +kernel
theorem dX7_weigh_69 : decode cX7_weigh 69 = .ok (.iadd, 1) := by decide +kernel
theorem dX7_weigh_70 : decode cX7_weigh 70 = .ok (.iaload, 1) := by decide +kernel
theorem dX7_weigh_71 : decode cX7_weigh 71 = .ok (.ireturn, 1) := by decide +kernel
set_option maxRecDepth 20000 in
theorem ggX7_move_X7_in : GoodIn wsX7_move wsX7_in := goodIn_r _ [7] (by decide +kernel) (by decide +kernel)
set_option maxRecDepth 20000 in
theorem gX7_move_X7_in : GoodIn wsX7_move (va_wsS RX7 84 yX7_in wsX7_in) := goodIn_app (goodIn_of _ (by decide +kernel)) ggX7_move_X7_in
set_option maxRecDepth 20000 in
theorem ggX7_move_X7_changes : GoodIn wsX7_move wsX7_changes := goodIn_r _ [11, 12, 13, 14, 2, 28, 29, 30, 31, 32, 33, 34, 35, 36, 37, 38, 39, 40, 41, 42, 43, 44, 45] (by decide +kernel) (by decide +kernel)
set_option maxRecDepth 20000 in
theorem gX7_move_X7_changes : GoodIn wsX7_move (wsV RX7 89 RX7 yX7_changes wsX7_changes) := goodIn_app (goodIn_of _ (by decide +kernel)) ggX7_move_X7_changes
set_option maxRecDepth 20000 in
theorem ggX7_move_X7_follows : GoodIn wsX7_move wsX7_follows := goodIn_r _ [18, 2, 28, 29, 30, 31, 32, 33, 34, 35, 36, 37, 38, 39, 40, 41, 42, 43, 44, 45] (by decide +kernel) (by decide +kernel)
set_option maxRecDepth 20000 in
theorem gX7_move_X7_follows : GoodIn wsX7_move (wsV RX7 77 RX7 yX7_follows wsX7_follows) := goodIn_app (goodIn_of _ (by decide +kernel)) ggX7_move_X7_follows
set_option maxRecDepth 20000 in
theorem ggX7_move_X7_placeIn : GoodIn wsX7_move wsX7_placeIn := goodIn_r _ [22, 2, 28, 29, 30, 31, 32, 33, 34, 35, 36, 37, 38, 39, 40, 41, 42, 43, 44, 45] (by decide +kernel) (by decide +kernel)
set_option maxRecDepth 20000 in
theorem gX7_move_X7_placeIn : GoodIn wsX7_move (wsV RX7 81 RX7 yX7_placeIn wsX7_placeIn) := goodIn_app (goodIn_of _ (by decide +kernel)) ggX7_move_X7_placeIn
set_option maxRecDepth 20000 in
theorem ggX7_move_X7_takes : GoodIn wsX7_move wsX7_takes := goodIn_r _ [26, 2, 27, 28, 29, 30, 31, 32, 33, 34, 35, 36, 37, 38, 39, 40, 41, 42, 43, 44, 45] (by decide +kernel) (by decide +kernel)
set_option maxRecDepth 20000 in
theorem gX7_move_X7_takes : GoodIn wsX7_move (wsV RX7 62 RX7 yX7_takes wsX7_takes) := goodIn_app (goodIn_of _ (by decide +kernel)) ggX7_move_X7_takes
theorem dX7_move_0 : decode cX7_move 0 = .ok (.iload_n 1, 1) := by decide +kernel
theorem dX7_move_1 : decode cX7_move 1 = .ok (.bipush (-99), 2) := by decide +kernel
theorem dX7_move_3 : decode cX7_move 3 = .ok (.bipush 99, 2) := by decide +kernel
theorem dX7_move_5 : decode cX7_move 5 = .ok (.invokestatic 84, 3) := by decide +kernel
theorem dX7_move_8 : decode cX7_move 8 = .ok (.ifCond .eq 13, 3) := by decide +kernel
theorem dX7_move_11 : decode cX7_move 11 = .ok (.iload_n 2, 1) := by decide +kernel
theorem dX7_move_12 : decode cX7_move 12 = .ok (.iconst 0, 1) := by decide +kernel
theorem dX7_move_13 : decode cX7_move 13 = .ok (.bipush 99, 2) := by decide +kernel
theorem dX7_move_15 : decode cX7_move 15 = .ok (.invokestatic 84, 3) := by decide +kernel
theorem dX7_move_18 : decode cX7_move 18 = .ok (.ifCond .ne 6, 3) := by decide +kernel
theorem dX7_move_21 : decode cX7_move 21 = .ok (.ldc 88, 2) := by decide +kernel
theorem dX7_move_23 : decode cX7_move 23 = .ok (.ireturn, 1) := by decide +kernel
theorem dX7_move_24 : decode cX7_move 24 = .ok (.aload_n 0, 1) := by decide +kernel
theorem dX7_move_25 : decode cX7_move 25 = .ok (.getfield 7, 3) := by decide +kernel
theorem dX7_move_28 : decode cX7_move 28 = .ok (.iconst 1, 1) := by decide +kernel
theorem dX7_move_29 : decode cX7_move 29 = .ok (.iaload, 1) := by decide +kernel
theorem dX7_move_30 : decode cX7_move 30 = .ok (.bipush 20, 2) := by decide +kernel
theorem dX7_move_32 : decode cX7_move 32 = .ok (.if_icmp .ne 6, 3) := by decide +kernel
theorem dX7_move_35 : decode cX7_move 35 = .ok (.ldc 101, 2) := by decide +kernel
theorem dX7_move_37 : decode cX7_move 37 = .ok (.ireturn, 1) := by decide +kernel
theorem dX7_move_38 : decode cX7_move 38 = .ok (.aload_n 0, 1) := by decide +kernel
theorem dX7_move_39 : decode cX7_move 39 = .ok (.invokevirtual 89, 3) := by decide +kernel
theorem dX7_move_42 : decode cX7_move 42 = .ok (.aload_n 0, 1) := by decide +kernel
theorem dX7_move_43 : decode cX7_move 43 = .ok (.iconst 1, 1) := by decide +kernel
theorem dX7_move_44 : decode cX7_move 44 = .ok (.iload_n 1, 1) := by decide +kernel
theorem dX7_move_45 : decode cX7_move 45 = .ok (.iload_n 2, 1) := by decide +kernel
theorem dX7_move_46 : decode cX7_move 46 = .ok (.iconst 0, 1) := by decide +kernel
theorem dX7_move_47 : decode cX7_move 47 = .ok (.invokevirtual 77, 3) := by decide +kernel
theorem dX7_move_50 : decode cX7_move 50 = .ok (.istore_n 3, 1) := by decide +kernel
theorem dX7_move_51 : decode cX7_move 51 = .ok (.iconst 0, 1) := by decide +kernel
theorem dX7_move_52 : decode cX7_move 52 = .ok (.istore 4, 2) := by decide +kernel
theorem dX7_move_54 : decode cX7_move 54 = .ok (.iload 4, 2) := by decide +kernel
theorem dX7_move_56 : decode cX7_move 56 = .ok (.aload_n 0, 1) := by decide +kernel
theorem dX7_move_57 : decode cX7_move 57 = .ok (.getfield 7, 3) := by decide +kernel
theorem dX7_move_60 : decode cX7_move 60 = .ok (.iconst 0, 1) := by decide +kernel
theorem dX7_move_61 : decode cX7_move 61 = .ok (.iaload, 1) := by decide +kernel
theorem dX7_move_62 : decode cX7_move 62 = .ok (.if_icmp .ge 91, 3) := by decide +kernel
theorem dX7_move_65 : decode cX7_move 65 = .ok (.aload_n 0, 1) := by decide +kernel
theorem dX7_move_66 : decode cX7_move 66 = .ok (.iload_n 3, 1) := by decide +kernel
theorem dX7_move_67 : decode cX7_move 67 = .ok (.iconst 1, 1) := by decide +kernel
theorem dX7_move_68 : decode cX7_move 68 = .ok (.isub, 1) := by decide +kernel
theorem dX7_move_69 : decode cX7_move 69 = .ok (.iload 4, 2) := by decide +kernel
theorem dX7_move_71 : decode cX7_move 71 = .ok (.invokevirtual 81, 3) := by decide +kernel
theorem dX7_move_74 : decode cX7_move 74 = .ok (.iload_n 1, 1) := by decide +kernel
theorem dX7_move_75 : decode cX7_move 75 = .ok (.iadd, 1) := by decide +kernel
theorem dX7_move_76 : decode cX7_move 76 = .ok (.aload_n 0, 1) := by decide +kernel
theorem dX7_move_77 : decode cX7_move 77 = .ok (.invokevirtual 62, 3) := by decide +kernel
theorem dX7_move_80 : decode cX7_move 80 = .ok (.iconst 2, 1) := by decide +kernel
theorem dX7_move_81 : decode cX7_move 81 = .ok (.iload_n 2, 1) := by decide +kernel
theorem dX7_move_82 : decode cX7_move 82 = .ok (.imul, 1) := by decide +kernel
theorem dX7_move_83 : decode cX7_move 83 = .ok (.iconst 1, 1) := by decide +kernel
theorem dX7_move_84 : decode cX7_move 84 = .ok (.iadd, 1) := by decide +kernel
theorem dX7_move_85 : decode cX7_move 85 = .ok (.irem, 1) := by decide +kernel
theorem dX7_move_86 : decode cX7_move 86 = .ok (.iadd, 1) := by decide +kernel
theorem dX7_move_87 : decode cX7_move 87 = .ok (.iload_n 2, 1) := by decide +kernel
theorem dX7_move_88 : decode cX7_move 88 = .ok (.isub, 1) := by decide +kernel
theorem dX7_move_89 : decode cX7_move 89 = .ok (.istore 5, 2) := by decide +kernel
theorem dX7_move_91 : decode cX7_move 91 = .ok (.aload_n 0, 1) := by decide +kernel
theorem dX7_move_92 : decode cX7_move 92 = .ok (.getfield 7, 3) := by decide +kernel
theorem dX7_move_95 : decode cX7_move 95 = .ok (.bipush 100, 2) := by decide +kernel
theorem dX7_move_97 : decode cX7_move 97 = .ok (.bipush 12, 2) := by decide +kernel
theorem dX7_move_99 : decode cX7_move 99 = .ok (.iload_n 3, 1) := by decide +kernel
theorem dX7_move_100 : decode cX7_move 100 = .ok (.imul, 1) := by decide +kernel
theorem dX7_move_101 : decode cX7_move 101 = .ok (.iadd, 1) := by decide +kernel
theorem dX7_move_102 : decode cX7_move 102 = .ok (.iload 4, 2) := by decide +kernel
theorem dX7_move_104 : decode cX7_move 104 = .ok (.iadd, 1) := by decide +kernel
theorem dX7_move_105 : decode cX7_move 105 = .ok (.iload 4, 2) := by decide +kernel
theorem dX7_move_107 : decode cX7_move 107 = .ok (.iastore, 1) := by decide +kernel
theorem dX7_move_108 : decode cX7_move 108 = .ok (.aload_n 0, 1) := by decide +kernel
theorem dX7_move_109 : decode cX7_move 109 = .ok (.getfield 7, 3) := by decide +kernel
theorem dX7_move_112 : decode cX7_move 112 = .ok (.sipush 340, 3) := by decide +kernel
theorem dX7_move_115 : decode cX7_move 115 = .ok (.bipush 12, 2) := by decide +kernel
theorem dX7_move_117 : decode cX7_move 117 = .ok (.iload_n 3, 1) := by decide +kernel
theorem dX7_move_118 : decode cX7_move 118 = .ok (.imul, 1) := by decide +kernel
theorem dX7_move_119 : decode cX7_move 119 = .ok (.iadd, 1) := by decide +kernel
theorem dX7_move_120 : decode cX7_move 120 = .ok (.iload 4, 2) := by decide +kernel
theorem dX7_move_122 : decode cX7_move 122 = .ok (.iadd, 1) := by decide +kernel
theorem dX7_move_123 : decode cX7_move 123 = .ok (.iload 5, 2) := by decide +kernel
theorem dX7_move_125 : decode cX7_move 125 = .ok (.ifCond .ge 7, 3) := by decide +kernel
theorem dX7_move_128 : decode cX7_move 128 = .ok (.iconst 0, 1) := by decide +kernel
theorem dX7_move_129 : decode cX7_move 129 = .ok (.goto 17, 3) := by decide +kernel
theorem dX7_move_132 : decode cX7_move 132 = .ok (.iload 5, 2) := by decide +kernel
theorem dX7_move_134 : decode cX7_move 134 = .ok (.bipush 99, 2) := by decide +kernel
theorem dX7_move_136 : decode cX7_move 136 = .ok (.if_icmp .le 8, 3) := by decide +kernel
theorem dX7_move_139 : decode cX7_move 139 = .ok (.bipush 99, 2) := by decide +kernel
theorem dX7_move_141 : decode cX7_move 141 = .ok (.goto 5, 3) := by decide +kernel
theorem dX7_move_144 : decode cX7_move 144 = .ok (.iload 5, 2) := by decide +kernel
theorem dX7_move_146 : decode cX7_move 146 = .ok (.iastore, 1) := by decide +kernel
theorem dX7_move_147 : decode cX7_move 147 = .ok (.iinc 4 1, 3) := by decide +kernel
theorem dX7_move_150 : decode cX7_move 150 = .ok (.goto (-96), 3) := by decide +kernel
theorem dX7_move_153 : decode cX7_move 153 = .ok (.iload_n 3, 1) := by decide +kernel
theorem dX7_move_154 : decode cX7_move 154 = .ok (.ireturn, 1) := by decide +kernel
set_option maxRecDepth 20000 in
theorem ggX7_looks_X7_latest : GoodIn wsX7_looks wsX7_latest := goodIn_r _ [7, 1, 19, 20, 21, 22, 23, 24, 25, 26, 27, 28, 29, 30, 31, 32, 33, 34, 35, 36] (by decide +kernel) (by decide +kernel)
set_option maxRecDepth 20000 in
theorem gX7_looks_X7_latest : GoodIn wsX7_looks (wsV RX7 102 RX7 yX7_latest wsX7_latest) := goodIn_app (goodIn_of _ (by decide +kernel)) ggX7_looks_X7_latest
set_option maxRecDepth 20000 in
theorem ggX7_looks_X7_placeIn : GoodIn wsX7_looks wsX7_placeIn := goodIn_r _ [11, 1, 19, 20, 21, 22, 23, 24, 25, 26, 27, 28, 29, 30, 31, 32, 33, 34, 35, 36] (by decide +kernel) (by decide +kernel)
set_option maxRecDepth 20000 in
theorem gX7_looks_X7_placeIn : GoodIn wsX7_looks (wsV RX7 81 RX7 yX7_placeIn wsX7_placeIn) := goodIn_app (goodIn_of _ (by decide +kernel)) ggX7_looks_X7_placeIn
set_option maxRecDepth 20000 in
theorem ggX7_looks_X7_divides : GoodIn wsX7_looks wsX7_divides := goodIn_r _ [15, 1, 16, 17, 6, 18, 19, 20, 21, 22, 23, 24, 25, 26, 27, 28, 29, 30, 31, 32, 33, 34, 35, 36] (by decide +kernel) (by decide +kernel)
set_option maxRecDepth 20000 in
theorem gX7_looks_X7_divides : GoodIn wsX7_looks (wsV RX7 98 RX7 yX7_divides wsX7_divides) := goodIn_app (goodIn_of _ (by decide +kernel)) ggX7_looks_X7_divides
theorem dX7_looks_0 : decode cX7_looks 0 = .ok (.iconst 0, 1) := by decide +kernel
theorem dX7_looks_1 : decode cX7_looks 1 = .ok (.istore_n 3, 1) := by decide +kernel
theorem dX7_looks_2 : decode cX7_looks 2 = .ok (.iload_n 3, 1) := by decide +kernel
theorem dX7_looks_3 : decode cX7_looks 3 = .ok (.aload_n 0, 1) := by decide +kernel
theorem dX7_looks_4 : decode cX7_looks 4 = .ok (.getfield 7, 3) := by decide +kernel
theorem dX7_looks_7 : decode cX7_looks 7 = .ok (.iconst 0, 1) := by decide +kernel
theorem dX7_looks_8 : decode cX7_looks 8 = .ok (.iaload, 1) := by decide +kernel
theorem dX7_looks_9 : decode cX7_looks 9 = .ok (.if_icmp .ge 77, 3) := by decide +kernel
theorem dX7_looks_12 : decode cX7_looks 12 = .ok (.aload_n 0, 1) := by decide +kernel
theorem dX7_looks_13 : decode cX7_looks 13 = .ok (.aload_n 0, 1) := by decide +kernel
theorem dX7_looks_14 : decode cX7_looks 14 = .ok (.invokevirtual 102, 3) := by decide +kernel
theorem dX7_looks_17 : decode cX7_looks 17 = .ok (.iload_n 3, 1) := by decide +kernel
theorem dX7_looks_18 : decode cX7_looks 18 = .ok (.invokevirtual 81, 3) := by decide +kernel
theorem dX7_looks_21 : decode cX7_looks 21 = .ok (.iload_n 1, 1) := by decide +kernel
theorem dX7_looks_22 : decode cX7_looks 22 = .ok (.isub, 1) := by decide +kernel
theorem dX7_looks_23 : decode cX7_looks 23 = .ok (.istore 4, 2) := by decide +kernel
theorem dX7_looks_25 : decode cX7_looks 25 = .ok (.iload_n 2, 1) := by decide +kernel
theorem dX7_looks_26 : decode cX7_looks 26 = .ok (.iload 4, 2) := by decide +kernel
theorem dX7_looks_28 : decode cX7_looks 28 = .ok (.ifCond .ge 9, 3) := by decide +kernel
theorem dX7_looks_31 : decode cX7_looks 31 = .ok (.iload 4, 2) := by decide +kernel
theorem dX7_looks_33 : decode cX7_looks 33 = .ok (.ineg, 1) := by decide +kernel
theorem dX7_looks_34 : decode cX7_looks 34 = .ok (.goto 5, 3) := by decide +kernel
theorem dX7_looks_37 : decode cX7_looks 37 = .ok (.iload 4, 2) := by decide +kernel
theorem dX7_looks_39 : decode cX7_looks 39 = .ok (.isub, 1) := by decide +kernel
theorem dX7_looks_40 : decode cX7_looks 40 = .ok (.istore 5, 2) := by decide +kernel
theorem dX7_looks_42 : decode cX7_looks 42 = .ok (.aload_n 0, 1) := by decide +kernel
theorem dX7_looks_43 : decode cX7_looks 43 = .ok (.getfield 32, 3) := by decide +kernel
theorem dX7_looks_46 : decode cX7_looks 46 = .ok (.iload_n 3, 1) := by decide +kernel
theorem dX7_looks_47 : decode cX7_looks 47 = .ok (.aload_n 0, 1) := by decide +kernel
theorem dX7_looks_48 : decode cX7_looks 48 = .ok (.getfield 7, 3) := by decide +kernel
theorem dX7_looks_51 : decode cX7_looks 51 = .ok (.bipush 8, 2) := by decide +kernel
theorem dX7_looks_53 : decode cX7_looks 53 = .ok (.iload_n 3, 1) := by decide +kernel
theorem dX7_looks_54 : decode cX7_looks 54 = .ok (.iadd, 1) := by decide +kernel
theorem dX7_looks_55 : decode cX7_looks 55 = .ok (.iaload, 1) := by decide +kernel
theorem dX7_looks_56 : decode cX7_looks 56 = .ok (.iastore, 1) := by decide +kernel
theorem dX7_looks_57 : decode cX7_looks 57 = .ok (.aload_n 0, 1) := by decide +kernel
theorem dX7_looks_58 : decode cX7_looks 58 = .ok (.getfield 7, 3) := by decide +kernel
theorem dX7_looks_61 : decode cX7_looks 61 = .ok (.bipush 8, 2) := by decide +kernel
theorem dX7_looks_63 : decode cX7_looks 63 = .ok (.iload_n 3, 1) := by decide +kernel
theorem dX7_looks_64 : decode cX7_looks 64 = .ok (.iadd, 1) := by decide +kernel
theorem dX7_looks_65 : decode cX7_looks 65 = .ok (.dup2, 1) := by decide +kernel
theorem dX7_looks_66 : decode cX7_looks 66 = .ok (.iaload, 1) := by decide +kernel
theorem dX7_looks_67 : decode cX7_looks 67 = .ok (.iload 5, 2) := by decide +kernel
theorem dX7_looks_69 : decode cX7_looks 69 = .ok (.ifCond .ge 7, 3) := by decide +kernel
theorem dX7_looks_72 : decode cX7_looks 72 = .ok (.iconst 0, 1) := by decide +kernel
theorem dX7_looks_73 : decode cX7_looks 73 = .ok (.goto 5, 3) := by decide +kernel
theorem dX7_looks_76 : decode cX7_looks 76 = .ok (.iload 5, 2) := by decide +kernel
theorem dX7_looks_78 : decode cX7_looks 78 = .ok (.imul, 1) := by decide +kernel
theorem dX7_looks_79 : decode cX7_looks 79 = .ok (.iastore, 1) := by decide +kernel
theorem dX7_looks_80 : decode cX7_looks 80 = .ok (.iinc 3 1, 3) := by decide +kernel
theorem dX7_looks_83 : decode cX7_looks 83 = .ok (.goto (-81), 3) := by decide +kernel
theorem dX7_looks_86 : decode cX7_looks 86 = .ok (.aload_n 0, 1) := by decide +kernel
theorem dX7_looks_87 : decode cX7_looks 87 = .ok (.invokevirtual 98, 3) := by decide +kernel
theorem dX7_looks_90 : decode cX7_looks 90 = .ok (.ireturn, 1) := by decide +kernel
set_option maxRecDepth 20000 in
theorem ggX7_observe_X7_in : GoodIn wsX7_observe wsX7_in := goodIn_r _ [10] (by decide +kernel) (by decide +kernel)
set_option maxRecDepth 20000 in
theorem gX7_observe_X7_in : GoodIn wsX7_observe (va_wsS RX7 84 yX7_in wsX7_in) := goodIn_app (goodIn_of _ (by decide +kernel)) ggX7_observe_X7_in
set_option maxRecDepth 20000 in
theorem ggX7_observe_X7_looks : GoodIn wsX7_observe wsX7_looks := goodIn_r _ [14, 4, 6, 15, 16, 17, 9, 18, 19, 20, 21, 22, 23, 24, 25, 26, 27, 28, 29, 75, 76, 77, 78, 79, 80, 81, 82, 83, 84, 85, 86, 87, 88, 89, 90, 91, 92] (by decide +kernel) (by decide +kernel)
set_option maxRecDepth 20000 in
theorem gX7_observe_X7_looks : GoodIn wsX7_observe (wsV RX7 105 RX7 yX7_looks wsX7_looks) := goodIn_app (goodIn_of _ (by decide +kernel)) ggX7_observe_X7_looks
set_option maxRecDepth 20000 in
theorem ggX7_observe_X7_effective : GoodIn wsX7_observe wsX7_effective := goodIn_r _ [33, 4, 34, 35, 36, 9, 37, 75, 76, 77, 78, 79, 80, 81, 82, 83, 84, 85, 86, 87, 88, 89, 90, 91, 92] (by decide +kernel) (by decide +kernel)
set_option maxRecDepth 20000 in
theorem gX7_observe_X7_effective : GoodIn wsX7_observe (wsV RX7 108 RX7 yX7_effective wsX7_effective) := goodIn_app (goodIn_of _ (by decide +kernel)) ggX7_observe_X7_effective
set_option maxRecDepth 20000 in
theorem ggX7_observe_X7_changes : GoodIn wsX7_observe wsX7_changes := goodIn_r _ [41, 42, 43, 44, 4, 75, 76, 77, 78, 79, 80, 81, 82, 83, 84, 85, 86, 87, 88, 89, 90, 91, 92] (by decide +kernel) (by decide +kernel)
set_option maxRecDepth 20000 in
theorem gX7_observe_X7_changes : GoodIn wsX7_observe (wsV RX7 89 RX7 yX7_changes wsX7_changes) := goodIn_app (goodIn_of _ (by decide +kernel)) ggX7_observe_X7_changes
set_option maxRecDepth 20000 in
theorem ggX7_observe_X7_resamples : GoodIn wsX7_observe wsX7_resamples := goodIn_r _ [48, 4, 49, 50, 51, 52, 9, 53, 54, 55, 56, 57, 58, 59, 60, 34, 35, 36, 37, 61, 62, 63, 64, 65, 66, 67, 68, 69, 70, 71, 72, 73, 74, 19, 20, 21, 22, 75, 76, 77, 78, 79, 80, 81, 82, 83, 84, 85, 86, 87, 88, 89, 90, 91, 92] (by decide +kernel) (by decide +kernel)
set_option maxRecDepth 20000 in
theorem gX7_observe_X7_resamples : GoodIn wsX7_observe (wsV RX7 111 RX7 yX7_resamples wsX7_resamples) := goodIn_app (goodIn_of _ (by decide +kernel)) ggX7_observe_X7_resamples
theorem dX7_observe_0 : decode cX7_observe 0 = .ok (.iload_n 1, 1) := by decide +kernel
theorem dX7_observe_1 : decode cX7_observe 1 = .ok (.iconst 0, 1) := by decide +kernel
theorem dX7_observe_2 : decode cX7_observe 2 = .ok (.bipush 99, 2) := by decide +kernel
theorem dX7_observe_4 : decode cX7_observe 4 = .ok (.invokestatic 84, 3) := by decide +kernel
theorem dX7_observe_7 : decode cX7_observe 7 = .ok (.ifCond .eq 13, 3) := by decide +kernel
theorem dX7_observe_10 : decode cX7_observe 10 = .ok (.iload_n 2, 1) := by decide +kernel
theorem dX7_observe_11 : decode cX7_observe 11 = .ok (.iconst 1, 1) := by decide +kernel
theorem dX7_observe_12 : decode cX7_observe 12 = .ok (.bipush 99, 2) := by decide +kernel
theorem dX7_observe_14 : decode cX7_observe 14 = .ok (.invokestatic 84, 3) := by decide +kernel
theorem dX7_observe_17 : decode cX7_observe 17 = .ok (.ifCond .ne 6, 3) := by decide +kernel
theorem dX7_observe_20 : decode cX7_observe 20 = .ok (.ldc 88, 2) := by decide +kernel
theorem dX7_observe_22 : decode cX7_observe 22 = .ok (.ireturn, 1) := by decide +kernel
theorem dX7_observe_23 : decode cX7_observe 23 = .ok (.aload_n 0, 1) := by decide +kernel
theorem dX7_observe_24 : decode cX7_observe 24 = .ok (.iload_n 1, 1) := by decide +kernel
theorem dX7_observe_25 : decode cX7_observe 25 = .ok (.iload_n 2, 1) := by decide +kernel
theorem dX7_observe_26 : decode cX7_observe 26 = .ok (.invokevirtual 105, 3) := by decide +kernel
theorem dX7_observe_29 : decode cX7_observe 29 = .ok (.istore_n 3, 1) := by decide +kernel
theorem dX7_observe_30 : decode cX7_observe 30 = .ok (.iload_n 3, 1) := by decide +kernel
theorem dX7_observe_31 : decode cX7_observe 31 = .ok (.ifCond .ne 8, 3) := by decide +kernel
theorem dX7_observe_34 : decode cX7_observe 34 = .ok (.ldc 97, 2) := by decide +kernel
theorem dX7_observe_36 : decode cX7_observe 36 = .ok (.goto 39, 3) := by decide +kernel
theorem dX7_observe_39 : decode cX7_observe 39 = .ok (.iload_n 3, 1) := by decide +kernel
theorem dX7_observe_40 : decode cX7_observe 40 = .ok (.ldc 96, 2) := by decide +kernel
theorem dX7_observe_42 : decode cX7_observe 42 = .ok (.if_icmp .gt 27, 3) := by decide +kernel
theorem dX7_observe_45 : decode cX7_observe 45 = .ok (.aload_n 0, 1) := by decide +kernel
theorem dX7_observe_46 : decode cX7_observe 46 = .ok (.invokevirtual 108, 3) := by decide +kernel
theorem dX7_observe_49 : decode cX7_observe 49 = .ok (.aload_n 0, 1) := by decide +kernel
theorem dX7_observe_50 : decode cX7_observe 50 = .ok (.getfield 7, 3) := by decide +kernel
theorem dX7_observe_53 : decode cX7_observe 53 = .ok (.iconst 5, 1) := by decide +kernel
theorem dX7_observe_54 : decode cX7_observe 54 = .ok (.iaload, 1) := by decide +kernel
theorem dX7_observe_55 : decode cX7_observe 55 = .ok (.if_icmp .ge 19, 3) := by decide +kernel
theorem dX7_observe_58 : decode cX7_observe 58 = .ok (.aload_n 0, 1) := by decide +kernel
theorem dX7_observe_59 : decode cX7_observe 59 = .ok (.getfield 7, 3) := by decide +kernel
theorem dX7_observe_62 : decode cX7_observe 62 = .ok (.iconst 1, 1) := by decide +kernel
theorem dX7_observe_63 : decode cX7_observe 63 = .ok (.iaload, 1) := by decide +kernel
theorem dX7_observe_64 : decode cX7_observe 64 = .ok (.bipush 20, 2) := by decide +kernel
theorem dX7_observe_66 : decode cX7_observe 66 = .ok (.if_icmp .ne 8, 3) := by decide +kernel
theorem dX7_observe_69 : decode cX7_observe 69 = .ok (.ldc 101, 2) := by decide +kernel
theorem dX7_observe_71 : decode cX7_observe 71 = .ok (.goto 4, 3) := by decide +kernel
theorem dX7_observe_74 : decode cX7_observe 74 = .ok (.iconst 0, 1) := by decide +kernel
theorem dX7_observe_75 : decode cX7_observe 75 = .ok (.istore 4, 2) := by decide +kernel
theorem dX7_observe_77 : decode cX7_observe 77 = .ok (.iconst 0, 1) := by decide +kernel
theorem dX7_observe_78 : decode cX7_observe 78 = .ok (.istore 5, 2) := by decide +kernel
theorem dX7_observe_80 : decode cX7_observe 80 = .ok (.iload 5, 2) := by decide +kernel
theorem dX7_observe_82 : decode cX7_observe 82 = .ok (.aload_n 0, 1) := by decide +kernel
theorem dX7_observe_83 : decode cX7_observe 83 = .ok (.getfield 7, 3) := by decide +kernel
theorem dX7_observe_86 : decode cX7_observe 86 = .ok (.iconst 0, 1) := by decide +kernel
theorem dX7_observe_87 : decode cX7_observe 87 = .ok (.iaload, 1) := by decide +kernel
theorem dX7_observe_88 : decode cX7_observe 88 = .ok (.if_icmp .ge 26, 3) := by decide +kernel
theorem dX7_observe_91 : decode cX7_observe 91 = .ok (.aload_n 0, 1) := by decide +kernel
theorem dX7_observe_92 : decode cX7_observe 92 = .ok (.getfield 7, 3) := by decide +kernel
theorem dX7_observe_95 : decode cX7_observe 95 = .ok (.bipush 8, 2) := by decide +kernel
theorem dX7_observe_97 : decode cX7_observe 97 = .ok (.iload 5, 2) := by decide +kernel
theorem dX7_observe_99 : decode cX7_observe 99 = .ok (.iadd, 1) := by decide +kernel
theorem dX7_observe_100 : decode cX7_observe 100 = .ok (.aload_n 0, 1) := by decide +kernel
theorem dX7_observe_101 : decode cX7_observe 101 = .ok (.getfield 32, 3) := by decide +kernel
theorem dX7_observe_104 : decode cX7_observe 104 = .ok (.iload 5, 2) := by decide +kernel
theorem dX7_observe_106 : decode cX7_observe 106 = .ok (.iaload, 1) := by decide +kernel
theorem dX7_observe_107 : decode cX7_observe 107 = .ok (.iastore, 1) := by decide +kernel
theorem dX7_observe_108 : decode cX7_observe 108 = .ok (.iinc 5 1, 3) := by decide +kernel
theorem dX7_observe_111 : decode cX7_observe 111 = .ok (.goto (-31), 3) := by decide +kernel
theorem dX7_observe_114 : decode cX7_observe 114 = .ok (.iload 4, 2) := by decide +kernel
theorem dX7_observe_116 : decode cX7_observe 116 = .ok (.ifCond .ge 6, 3) := by decide +kernel
theorem dX7_observe_119 : decode cX7_observe 119 = .ok (.iload 4, 2) := by decide +kernel
theorem dX7_observe_121 : decode cX7_observe 121 = .ok (.ireturn, 1) := by decide +kernel
theorem dX7_observe_122 : decode cX7_observe 122 = .ok (.aload_n 0, 1) := by decide +kernel
theorem dX7_observe_123 : decode cX7_observe 123 = .ok (.invokevirtual 89, 3) := by decide +kernel
theorem dX7_observe_126 : decode cX7_observe 126 = .ok (.aload_n 0, 1) := by decide +kernel
theorem dX7_observe_127 : decode cX7_observe 127 = .ok (.iload_n 1, 1) := by decide +kernel
theorem dX7_observe_128 : decode cX7_observe 128 = .ok (.iload_n 2, 1) := by decide +kernel
theorem dX7_observe_129 : decode cX7_observe 129 = .ok (.invokevirtual 105, 3) := by decide +kernel
theorem dX7_observe_132 : decode cX7_observe 132 = .ok (.pop, 1) := by decide +kernel
theorem dX7_observe_133 : decode cX7_observe 133 = .ok (.aload_n 0, 1) := by decide +kernel
theorem dX7_observe_134 : decode cX7_observe 134 = .ok (.invokevirtual 108, 3) := by decide +kernel
theorem dX7_observe_137 : decode cX7_observe 137 = .ok (.istore 5, 2) := by decide +kernel
theorem dX7_observe_139 : decode cX7_observe 139 = .ok (.aload_n 0, 1) := by decide +kernel
theorem dX7_observe_140 : decode cX7_observe 140 = .ok (.getfield 7, 3) := by decide +kernel
theorem dX7_observe_143 : decode cX7_observe 143 = .ok (.iconst 3, 1) := by decide +kernel
theorem dX7_observe_144 : decode cX7_observe 144 = .ok (.dup2, 1) := by decide +kernel
theorem dX7_observe_145 : decode cX7_observe 145 = .ok (.iaload, 1) := by decide +kernel
theorem dX7_observe_146 : decode cX7_observe 146 = .ok (.iconst 1, 1) := by decide +kernel
theorem dX7_observe_147 : decode cX7_observe 147 = .ok (.iadd, 1) := by decide +kernel
theorem dX7_observe_148 : decode cX7_observe 148 = .ok (.iastore, 1) := by decide +kernel
theorem dX7_observe_149 : decode cX7_observe 149 = .ok (.iload 5, 2) := by decide +kernel
theorem dX7_observe_151 : decode cX7_observe 151 = .ok (.aload_n 0, 1) := by decide +kernel
theorem dX7_observe_152 : decode cX7_observe 152 = .ok (.getfield 7, 3) := by decide +kernel
theorem dX7_observe_155 : decode cX7_observe 155 = .ok (.iconst 5, 1) := by decide +kernel
theorem dX7_observe_156 : decode cX7_observe 156 = .ok (.iaload, 1) := by decide +kernel
theorem dX7_observe_157 : decode cX7_observe 157 = .ok (.if_icmp .ge 7, 3) := by decide +kernel
theorem dX7_observe_160 : decode cX7_observe 160 = .ok (.aload_n 0, 1) := by decide +kernel
theorem dX7_observe_161 : decode cX7_observe 161 = .ok (.invokevirtual 111, 3) := by decide +kernel
theorem dX7_observe_164 : decode cX7_observe 164 = .ok (.iload 5, 2) := by decide +kernel
theorem dX7_observe_166 : decode cX7_observe 166 = .ok (.ireturn, 1) := by decide +kernel
theorem dX7_unlike_0 : decode cX7_unlike 0 = .ok (.iconst 0, 1) := by decide +kernel
theorem dX7_unlike_1 : decode cX7_unlike 1 = .ok (.istore_n 3, 1) := by decide +kernel
theorem dX7_unlike_2 : decode cX7_unlike 2 = .ok (.iconst 0, 1) := by decide +kernel
theorem dX7_unlike_3 : decode cX7_unlike 3 = .ok (.istore 4, 2) := by decide +kernel
theorem dX7_unlike_5 : decode cX7_unlike 5 = .ok (.iload 4, 2) := by decide +kernel
theorem dX7_unlike_7 : decode cX7_unlike 7 = .ok (.aload_n 0, 1) := by decide +kernel
theorem dX7_unlike_8 : decode cX7_unlike 8 = .ok (.getfield 7, 3) := by decide +kernel
theorem dX7_unlike_11 : decode cX7_unlike 11 = .ok (.iconst 0, 1) := by decide +kernel
theorem dX7_unlike_12 : decode cX7_unlike 12 = .ok (.iaload, 1) := by decide +kernel
theorem dX7_unlike_13 : decode cX7_unlike 13 = .ok (.if_icmp .ge 84, 3) := by decide +kernel
theorem dX7_unlike_16 : decode cX7_unlike 16 = .ok (.iconst 1, 1) := by decide +kernel
theorem dX7_unlike_17 : decode cX7_unlike 17 = .ok (.istore 5, 2) := by decide +kernel
theorem dX7_unlike_19 : decode cX7_unlike 19 = .ok (.iconst 0, 1) := by decide +kernel
theorem dX7_unlike_20 : decode cX7_unlike 20 = .ok (.istore 6, 2) := by decide +kernel
theorem dX7_unlike_22 : decode cX7_unlike 22 = .ok (.iload 6, 2) := by decide +kernel
theorem dX7_unlike_24 : decode cX7_unlike 24 = .ok (.iload 4, 2) := by decide +kernel
theorem dX7_unlike_26 : decode cX7_unlike 26 = .ok (.if_icmp .ge 52, 3) := by decide +kernel
theorem dX7_unlike_29 : decode cX7_unlike 29 = .ok (.iload 5, 2) := by decide +kernel
theorem dX7_unlike_31 : decode cX7_unlike 31 = .ok (.ifCond .eq 38, 3) := by decide +kernel
theorem dX7_unlike_34 : decode cX7_unlike 34 = .ok (.aload_n 0, 1) := by decide +kernel
theorem dX7_unlike_35 : decode cX7_unlike 35 = .ok (.getfield 7, 3) := by decide +kernel
theorem dX7_unlike_38 : decode cX7_unlike 38 = .ok (.iload_n 2, 1) := by decide +kernel
theorem dX7_unlike_39 : decode cX7_unlike 39 = .ok (.bipush 12, 2) := by decide +kernel
theorem dX7_unlike_41 : decode cX7_unlike 41 = .ok (.iload_n 1, 1) := by decide +kernel
theorem dX7_unlike_42 : decode cX7_unlike 42 = .ok (.imul, 1) := by decide +kernel
theorem dX7_unlike_43 : decode cX7_unlike 43 = .ok (.iadd, 1) := by decide +kernel
theorem dX7_unlike_44 : decode cX7_unlike 44 = .ok (.iload 6, 2) := by decide +kernel
theorem dX7_unlike_46 : decode cX7_unlike 46 = .ok (.iadd, 1) := by decide +kernel
theorem dX7_unlike_47 : decode cX7_unlike 47 = .ok (.iaload, 1) := by decide +kernel
theorem dX7_unlike_48 : decode cX7_unlike 48 = .ok (.aload_n 0, 1) := by decide +kernel
theorem dX7_unlike_49 : decode cX7_unlike 49 = .ok (.getfield 7, 3) := by decide +kernel
theorem dX7_unlike_52 : decode cX7_unlike 52 = .ok (.iload_n 2, 1) := by decide +kernel
theorem dX7_unlike_53 : decode cX7_unlike 53 = .ok (.bipush 12, 2) := by decide +kernel
theorem dX7_unlike_55 : decode cX7_unlike 55 = .ok (.iload_n 1, 1) := by decide +kernel
theorem dX7_unlike_56 : decode cX7_unlike 56 = .ok (.imul, 1) := by decide +kernel
theorem dX7_unlike_57 : decode cX7_unlike 57 = .ok (.iadd, 1) := by decide +kernel
theorem dX7_unlike_58 : decode cX7_unlike 58 = .ok (.iload 4, 2) := by decide +kernel
theorem dX7_unlike_60 : decode cX7_unlike 60 = .ok (.iadd, 1) := by decide +kernel
theorem dX7_unlike_61 : decode cX7_unlike 61 = .ok (.iaload, 1) := by decide +kernel
theorem dX7_unlike_62 : decode cX7_unlike 62 = .ok (.if_icmp .eq 7, 3) := by decide +kernel
theorem dX7_unlike_65 : decode cX7_unlike 65 = .ok (.iconst 1, 1) := by decide +kernel
theorem dX7_unlike_66 : decode cX7_unlike 66 = .ok (.goto 4, 3) := by decide +kernel
theorem dX7_unlike_69 : decode cX7_unlike 69 = .ok (.iconst 0, 1) := by decide +kernel
theorem dX7_unlike_70 : decode cX7_unlike 70 = .ok (.istore 5, 2) := by decide +kernel
theorem dX7_unlike_72 : decode cX7_unlike 72 = .ok (.iinc 6 1, 3) := by decide +kernel
theorem dX7_unlike_75 : decode cX7_unlike 75 = .ok (.goto (-53), 3) := by decide +kernel
theorem dX7_unlike_78 : decode cX7_unlike 78 = .ok (.iload_n 3, 1) := by decide +kernel
theorem dX7_unlike_79 : decode cX7_unlike 79 = .ok (.iload 5, 2) := by decide +kernel
theorem dX7_unlike_81 : decode cX7_unlike 81 = .ok (.ifCond .eq 7, 3) := by decide +kernel
theorem dX7_unlike_84 : decode cX7_unlike 84 = .ok (.iconst 1, 1) := by decide +kernel
theorem dX7_unlike_85 : decode cX7_unlike 85 = .ok (.goto 4, 3) := by decide +kernel
theorem dX7_unlike_88 : decode cX7_unlike 88 = .ok (.iconst 0, 1) := by decide +kernel
theorem dX7_unlike_89 : decode cX7_unlike 89 = .ok (.iadd, 1) := by decide +kernel
theorem dX7_unlike_90 : decode cX7_unlike 90 = .ok (.istore_n 3, 1) := by decide +kernel
theorem dX7_unlike_91 : decode cX7_unlike 91 = .ok (.iinc 4 1, 3) := by decide +kernel
theorem dX7_unlike_94 : decode cX7_unlike 94 = .ok (.goto (-89), 3) := by decide +kernel
theorem dX7_unlike_97 : decode cX7_unlike 97 = .ok (.iload_n 3, 1) := by decide +kernel
theorem dX7_unlike_98 : decode cX7_unlike 98 = .ok (.ireturn, 1) := by decide +kernel
set_option maxRecDepth 20000 in
theorem ggX7_resample_X7_changes : GoodIn wsX7_resample wsX7_changes := goodIn_r _ [7, 8, 9, 10, 1, 57, 58, 59, 60, 61, 62, 63, 64, 65, 66, 67, 68, 69, 70, 71, 72, 73, 74] (by decide +kernel) (by decide +kernel)
set_option maxRecDepth 20000 in
theorem gX7_resample_X7_changes : GoodIn wsX7_resample (wsV RX7 89 RX7 yX7_changes wsX7_changes) := goodIn_app (goodIn_of _ (by decide +kernel)) ggX7_resample_X7_changes
set_option maxRecDepth 20000 in
theorem ggX7_resample_X7_resamples : GoodIn wsX7_resample wsX7_resamples := goodIn_r _ [14, 1, 15, 16, 17, 18, 6, 19, 20, 21, 22, 23, 24, 25, 26, 27, 28, 29, 30, 31, 32, 33, 34, 35, 36, 37, 38, 39, 40, 41, 42, 43, 44, 45, 46, 47, 48, 57, 58, 59, 60, 61, 62, 63, 64, 65, 66, 67, 68, 69, 70, 71, 72, 73, 74] (by decide +kernel) (by decide +kernel)
set_option maxRecDepth 20000 in
theorem gX7_resample_X7_resamples : GoodIn wsX7_resample (wsV RX7 111 RX7 yX7_resamples wsX7_resamples) := goodIn_app (goodIn_of _ (by decide +kernel)) ggX7_resample_X7_resamples
set_option maxRecDepth 20000 in
theorem ggX7_resample_X7_latest : GoodIn wsX7_resample wsX7_latest := goodIn_r _ [52, 1, 57, 58, 59, 60, 61, 62, 63, 64, 65, 66, 67, 68, 69, 70, 71, 72, 73, 74] (by decide +kernel) (by decide +kernel)
set_option maxRecDepth 20000 in
theorem gX7_resample_X7_latest : GoodIn wsX7_resample (wsV RX7 102 RX7 yX7_latest wsX7_latest) := goodIn_app (goodIn_of _ (by decide +kernel)) ggX7_resample_X7_latest
set_option maxRecDepth 20000 in
theorem ggX7_resample_X7_unlike : GoodIn wsX7_resample wsX7_unlike := goodIn_r _ [56, 1, 57, 58, 59, 60, 61, 62, 63, 64, 65, 66, 67, 68, 69, 70, 71, 72, 73, 74] (by decide +kernel) (by decide +kernel)
set_option maxRecDepth 20000 in
theorem gX7_resample_X7_unlike : GoodIn wsX7_resample (wsV RX7 114 RX7 yX7_unlike wsX7_unlike) := goodIn_app (goodIn_of _ (by decide +kernel)) ggX7_resample_X7_unlike
theorem dX7_resample_0 : decode cX7_resample 0 = .ok (.aload_n 0, 1) := by decide +kernel
theorem dX7_resample_1 : decode cX7_resample 1 = .ok (.getfield 7, 3) := by decide +kernel
theorem dX7_resample_4 : decode cX7_resample 4 = .ok (.iconst 1, 1) := by decide +kernel
theorem dX7_resample_5 : decode cX7_resample 5 = .ok (.iaload, 1) := by decide +kernel
theorem dX7_resample_6 : decode cX7_resample 6 = .ok (.bipush 20, 2) := by decide +kernel
theorem dX7_resample_8 : decode cX7_resample 8 = .ok (.if_icmp .ne 6, 3) := by decide +kernel
theorem dX7_resample_11 : decode cX7_resample 11 = .ok (.ldc 101, 2) := by decide +kernel
theorem dX7_resample_13 : decode cX7_resample 13 = .ok (.ireturn, 1) := by decide +kernel
theorem dX7_resample_14 : decode cX7_resample 14 = .ok (.aload_n 0, 1) := by decide +kernel
theorem dX7_resample_15 : decode cX7_resample 15 = .ok (.invokevirtual 89, 3) := by decide +kernel
theorem dX7_resample_18 : decode cX7_resample 18 = .ok (.aload_n 0, 1) := by decide +kernel
theorem dX7_resample_19 : decode cX7_resample 19 = .ok (.invokevirtual 111, 3) := by decide +kernel
theorem dX7_resample_22 : decode cX7_resample 22 = .ok (.aload_n 0, 1) := by decide +kernel
theorem dX7_resample_23 : decode cX7_resample 23 = .ok (.aload_n 0, 1) := by decide +kernel
theorem dX7_resample_24 : decode cX7_resample 24 = .ok (.invokevirtual 102, 3) := by decide +kernel
theorem dX7_resample_27 : decode cX7_resample 27 = .ok (.bipush 100, 2) := by decide +kernel
theorem dX7_resample_29 : decode cX7_resample 29 = .ok (.invokevirtual 114, 3) := by decide +kernel
theorem dX7_resample_32 : decode cX7_resample 32 = .ok (.ireturn, 1) := by decide +kernel
set_option maxRecDepth 20000 in
theorem ggX7_set_X7_in : GoodIn wsX7_set wsX7_in := goodIn_r _ [6] (by decide +kernel) (by decide +kernel)
set_option maxRecDepth 20000 in
theorem gX7_set_X7_in : GoodIn wsX7_set (va_wsS RX7 84 yX7_in wsX7_in) := goodIn_app (goodIn_of _ (by decide +kernel)) ggX7_set_X7_in
set_option maxRecDepth 20000 in
theorem ggX7_set_X7_changes : GoodIn wsX7_set wsX7_changes := goodIn_r _ [10, 11, 12, 13, 2, 14, 15, 16, 17, 18, 19, 20, 21, 22, 23, 24, 25, 26, 27, 28, 29, 30, 31] (by decide +kernel) (by decide +kernel)
set_option maxRecDepth 20000 in
theorem gX7_set_X7_changes : GoodIn wsX7_set (wsV RX7 89 RX7 yX7_changes wsX7_changes) := goodIn_app (goodIn_of _ (by decide +kernel)) ggX7_set_X7_changes
theorem dX7_set_0 : decode cX7_set 0 = .ok (.iload_n 1, 1) := by decide +kernel
theorem dX7_set_1 : decode cX7_set 1 = .ok (.iconst 0, 1) := by decide +kernel
theorem dX7_set_2 : decode cX7_set 2 = .ok (.iconst 2, 1) := by decide +kernel
theorem dX7_set_3 : decode cX7_set 3 = .ok (.invokestatic 84, 3) := by decide +kernel
theorem dX7_set_6 : decode cX7_set 6 = .ok (.ifCond .eq 31, 3) := by decide +kernel
theorem dX7_set_9 : decode cX7_set 9 = .ok (.iload_n 2, 1) := by decide +kernel
theorem dX7_set_10 : decode cX7_set 10 = .ok (.iconst 0, 1) := by decide +kernel
theorem dX7_set_11 : decode cX7_set 11 = .ok (.iload_n 1, 1) := by decide +kernel
theorem dX7_set_12 : decode cX7_set 12 = .ok (.ifCond .ne 8, 3) := by decide +kernel
theorem dX7_set_15 : decode cX7_set 15 = .ok (.bipush 12, 2) := by decide +kernel
theorem dX7_set_17 : decode cX7_set 17 = .ok (.goto 14, 3) := by decide +kernel
theorem dX7_set_20 : decode cX7_set 20 = .ok (.iload_n 1, 1) := by decide +kernel
theorem dX7_set_21 : decode cX7_set 21 = .ok (.iconst 1, 1) := by decide +kernel
theorem dX7_set_22 : decode cX7_set 22 = .ok (.if_icmp .ne 7, 3) := by decide +kernel
theorem dX7_set_25 : decode cX7_set 25 = .ok (.iconst 2, 1) := by decide +kernel
theorem dX7_set_26 : decode cX7_set 26 = .ok (.goto 5, 3) := by decide +kernel
theorem dX7_set_29 : decode cX7_set 29 = .ok (.bipush 99, 2) := by decide +kernel
theorem dX7_set_31 : decode cX7_set 31 = .ok (.invokestatic 84, 3) := by decide +kernel
theorem dX7_set_34 : decode cX7_set 34 = .ok (.ifCond .ne 6, 3) := by decide +kernel
theorem dX7_set_37 : decode cX7_set 37 = .ok (.ldc 88, 2) := by decide +kernel
theorem dX7_set_39 : decode cX7_set 39 = .ok (.ireturn, 1) := by decide +kernel
theorem dX7_set_40 : decode cX7_set 40 = .ok (.aload_n 0, 1) := by decide +kernel
theorem dX7_set_41 : decode cX7_set 41 = .ok (.invokevirtual 89, 3) := by decide +kernel
theorem dX7_set_44 : decode cX7_set 44 = .ok (.aload_n 0, 1) := by decide +kernel
theorem dX7_set_45 : decode cX7_set 45 = .ok (.getfield 7, 3) := by decide +kernel
theorem dX7_set_48 : decode cX7_set 48 = .ok (.iconst 5, 1) := by decide +kernel
theorem dX7_set_49 : decode cX7_set 49 = .ok (.iload_n 1, 1) := by decide +kernel
theorem dX7_set_50 : decode cX7_set 50 = .ok (.iadd, 1) := by decide +kernel
theorem dX7_set_51 : decode cX7_set 51 = .ok (.iaload, 1) := by decide +kernel
theorem dX7_set_52 : decode cX7_set 52 = .ok (.istore_n 3, 1) := by decide +kernel
theorem dX7_set_53 : decode cX7_set 53 = .ok (.aload_n 0, 1) := by decide +kernel
theorem dX7_set_54 : decode cX7_set 54 = .ok (.getfield 7, 3) := by decide +kernel
theorem dX7_set_57 : decode cX7_set 57 = .ok (.iconst 5, 1) := by decide +kernel
theorem dX7_set_58 : decode cX7_set 58 = .ok (.iload_n 1, 1) := by decide +kernel
theorem dX7_set_59 : decode cX7_set 59 = .ok (.iadd, 1) := by decide +kernel
theorem dX7_set_60 : decode cX7_set 60 = .ok (.iload_n 2, 1) := by decide +kernel
theorem dX7_set_61 : decode cX7_set 61 = .ok (.iastore, 1) := by decide +kernel
theorem dX7_set_62 : decode cX7_set 62 = .ok (.iload_n 3, 1) := by decide +kernel
theorem dX7_set_63 : decode cX7_set 63 = .ok (.ireturn, 1) := by decide +kernel
theorem dX7_part_0 : decode cX7_part 0 = .ok (.lload_n 0, 1) := by decide +kernel
theorem dX7_part_1 : decode cX7_part 1 = .ok (.lstore 5, 2) := by decide +kernel
theorem dX7_part_3 : decode cX7_part 3 = .ok (.lload_n 2, 1) := by decide +kernel
theorem dX7_part_4 : decode cX7_part 4 = .ok (.lstore 7, 2) := by decide +kernel
theorem dX7_part_6 : decode cX7_part 6 = .ok (.lload 7, 2) := by decide +kernel
theorem dX7_part_8 : decode cX7_part 8 = .ok (.lconst 0, 1) := by decide +kernel
theorem dX7_part_9 : decode cX7_part 9 = .ok (.lcmp, 1) := by decide +kernel
theorem dX7_part_10 : decode cX7_part 10 = .ok (.ifCond .eq 21, 3) := by decide +kernel
theorem dX7_part_13 : decode cX7_part 13 = .ok (.lload 5, 2) := by decide +kernel
theorem dX7_part_15 : decode cX7_part 15 = .ok (.lload 7, 2) := by decide +kernel
theorem dX7_part_17 : decode cX7_part 17 = .ok (.lrem, 1) := by decide +kernel
theorem dX7_part_18 : decode cX7_part 18 = .ok (.lstore 9, 2) := by decide +kernel
theorem dX7_part_20 : decode cX7_part 20 = .ok (.lload 7, 2) := by decide +kernel
theorem dX7_part_22 : decode cX7_part 22 = .ok (.lstore 5, 2) := by decide +kernel
theorem dX7_part_24 : decode cX7_part 24 = .ok (.lload 9, 2) := by decide +kernel
theorem dX7_part_26 : decode cX7_part 26 = .ok (.lstore 7, 2) := by decide +kernel
theorem dX7_part_28 : decode cX7_part 28 = .ok (.goto (-22), 3) := by decide +kernel
theorem dX7_part_31 : decode cX7_part 31 = .ok (.iload 4, 2) := by decide +kernel
theorem dX7_part_33 : decode cX7_part 33 = .ok (.ifCond .ne 10, 3) := by decide +kernel
theorem dX7_part_36 : decode cX7_part 36 = .ok (.lload_n 0, 1) := by decide +kernel
theorem dX7_part_37 : decode cX7_part 37 = .ok (.lload 5, 2) := by decide +kernel
theorem dX7_part_39 : decode cX7_part 39 = .ok (.ldiv, 1) := by decide +kernel
theorem dX7_part_40 : decode cX7_part 40 = .ok (.goto 7, 3) := by decide +kernel
theorem dX7_part_43 : decode cX7_part 43 = .ok (.lload_n 2, 1) := by decide +kernel
theorem dX7_part_44 : decode cX7_part 44 = .ok (.lload 5, 2) := by decide +kernel
theorem dX7_part_46 : decode cX7_part 46 = .ok (.ldiv, 1) := by decide +kernel
theorem dX7_part_47 : decode cX7_part 47 = .ok (.l2i, 1) := by decide +kernel
theorem dX7_part_48 : decode cX7_part 48 = .ok (.ireturn, 1) := by decide +kernel
set_option maxRecDepth 20000 in
theorem ggX7_likePlaces_X7_latest : GoodIn wsX7_likePlaces wsX7_latest := goodIn_r _ [6, 1, 11, 12, 13, 14, 15, 16, 17, 18, 19, 20, 21, 22, 23, 24, 25, 26, 27, 28] (by decide +kernel) (by decide +kernel)
set_option maxRecDepth 20000 in
theorem gX7_likePlaces_X7_latest : GoodIn wsX7_likePlaces (wsV RX7 102 RX7 yX7_latest wsX7_latest) := goodIn_app (goodIn_of _ (by decide +kernel)) ggX7_likePlaces_X7_latest
set_option maxRecDepth 20000 in
theorem ggX7_likePlaces_X7_placeIn : GoodIn wsX7_likePlaces wsX7_placeIn := goodIn_r _ [10, 1, 11, 12, 13, 14, 15, 16, 17, 18, 19, 20, 21, 22, 23, 24, 25, 26, 27, 28] (by decide +kernel) (by decide +kernel)
set_option maxRecDepth 20000 in
theorem gX7_likePlaces_X7_placeIn : GoodIn wsX7_likePlaces (wsV RX7 81 RX7 yX7_placeIn wsX7_placeIn) := goodIn_app (goodIn_of _ (by decide +kernel)) ggX7_likePlaces_X7_placeIn
theorem dX7_likePlaces_0 : decode cX7_likePlaces 0 = .ok (.iconst 0, 1) := by decide +kernel
theorem dX7_likePlaces_1 : decode cX7_likePlaces 1 = .ok (.istore_n 2, 1) := by decide +kernel
theorem dX7_likePlaces_2 : decode cX7_likePlaces 2 = .ok (.iconst 0, 1) := by decide +kernel
theorem dX7_likePlaces_3 : decode cX7_likePlaces 3 = .ok (.istore_n 3, 1) := by decide +kernel
theorem dX7_likePlaces_4 : decode cX7_likePlaces 4 = .ok (.iload_n 3, 1) := by decide +kernel
theorem dX7_likePlaces_5 : decode cX7_likePlaces 5 = .ok (.aload_n 0, 1) := by decide +kernel
theorem dX7_likePlaces_6 : decode cX7_likePlaces 6 = .ok (.getfield 7, 3) := by decide +kernel
theorem dX7_likePlaces_9 : decode cX7_likePlaces 9 = .ok (.iconst 0, 1) := by decide +kernel
theorem dX7_likePlaces_10 : decode cX7_likePlaces 10 = .ok (.iaload, 1) := by decide +kernel
theorem dX7_likePlaces_11 : decode cX7_likePlaces 11 = .ok (.if_icmp .ge 38, 3) := by decide +kernel
theorem dX7_likePlaces_14 : decode cX7_likePlaces 14 = .ok (.iload_n 2, 1) := by decide +kernel
theorem dX7_likePlaces_15 : decode cX7_likePlaces 15 = .ok (.aload_n 0, 1) := by decide +kernel
theorem dX7_likePlaces_16 : decode cX7_likePlaces 16 = .ok (.aload_n 0, 1) := by decide +kernel
theorem dX7_likePlaces_17 : decode cX7_likePlaces 17 = .ok (.invokevirtual 102, 3) := by decide +kernel
theorem dX7_likePlaces_20 : decode cX7_likePlaces 20 = .ok (.iload_n 3, 1) := by decide +kernel
theorem dX7_likePlaces_21 : decode cX7_likePlaces 21 = .ok (.invokevirtual 81, 3) := by decide +kernel
theorem dX7_likePlaces_24 : decode cX7_likePlaces 24 = .ok (.aload_n 0, 1) := by decide +kernel
theorem dX7_likePlaces_25 : decode cX7_likePlaces 25 = .ok (.aload_n 0, 1) := by decide +kernel
theorem dX7_likePlaces_26 : decode cX7_likePlaces 26 = .ok (.invokevirtual 102, 3) := by decide +kernel
theorem dX7_likePlaces_29 : decode cX7_likePlaces 29 = .ok (.iload_n 1, 1) := by decide +kernel
theorem dX7_likePlaces_30 : decode cX7_likePlaces 30 = .ok (.invokevirtual 81, 3) := by decide +kernel
theorem dX7_likePlaces_33 : decode cX7_likePlaces 33 = .ok (.if_icmp .ne 7, 3) := by decide +kernel
theorem dX7_likePlaces_36 : decode cX7_likePlaces 36 = .ok (.iconst 1, 1) := by decide +kernel
theorem dX7_likePlaces_37 : decode cX7_likePlaces 37 = .ok (.goto 4, 3) := by decide +kernel
theorem dX7_likePlaces_40 : decode cX7_likePlaces 40 = .ok (.iconst 0, 1) := by decide +kernel
theorem dX7_likePlaces_41 : decode cX7_likePlaces 41 = .ok (.iadd, 1) := by decide +kernel
theorem dX7_likePlaces_42 : decode cX7_likePlaces 42 = .ok (.istore_n 2, 1) := by decide +kernel
theorem dX7_likePlaces_43 : decode cX7_likePlaces 43 = .ok (.iinc 3 1, 3) := by decide +kernel
theorem dX7_likePlaces_46 : decode cX7_likePlaces 46 = .ok (.goto (-42), 3) := by decide +kernel
theorem dX7_likePlaces_49 : decode cX7_likePlaces 49 = .ok (.iload_n 2, 1) := by decide +kernel
theorem dX7_likePlaces_50 : decode cX7_likePlaces 50 = .ok (.ireturn, 1) := by decide +kernel
theorem dX7_rank_0 : decode cX7_rank 0 = .ok (.iconst 0, 1) := by decide +kernel
theorem dX7_rank_1 : decode cX7_rank 1 = .ok (.istore_n 2, 1) := by decide +kernel
theorem dX7_rank_2 : decode cX7_rank 2 = .ok (.aload_n 0, 1) := by decide +kernel
theorem dX7_rank_3 : decode cX7_rank 3 = .ok (.getfield 7, 3) := by decide +kernel
theorem dX7_rank_6 : decode cX7_rank 6 = .ok (.bipush 8, 2) := by decide +kernel
theorem dX7_rank_8 : decode cX7_rank 8 = .ok (.iload_n 1, 1) := by decide +kernel
theorem dX7_rank_9 : decode cX7_rank 9 = .ok (.iadd, 1) := by decide +kernel
theorem dX7_rank_10 : decode cX7_rank 10 = .ok (.iaload, 1) := by decide +kernel
theorem dX7_rank_11 : decode cX7_rank 11 = .ok (.istore_n 3, 1) := by decide +kernel
theorem dX7_rank_12 : decode cX7_rank 12 = .ok (.iconst 0, 1) := by decide +kernel
theorem dX7_rank_13 : decode cX7_rank 13 = .ok (.istore 4, 2) := by decide +kernel
theorem dX7_rank_15 : decode cX7_rank 15 = .ok (.iload 4, 2) := by decide +kernel
theorem dX7_rank_17 : decode cX7_rank 17 = .ok (.aload_n 0, 1) := by decide +kernel
theorem dX7_rank_18 : decode cX7_rank 18 = .ok (.getfield 7, 3) := by decide +kernel
theorem dX7_rank_21 : decode cX7_rank 21 = .ok (.iconst 0, 1) := by decide +kernel
theorem dX7_rank_22 : decode cX7_rank 22 = .ok (.iaload, 1) := by decide +kernel
theorem dX7_rank_23 : decode cX7_rank 23 = .ok (.if_icmp .ge 51, 3) := by decide +kernel
theorem dX7_rank_26 : decode cX7_rank 26 = .ok (.iload_n 2, 1) := by decide +kernel
theorem dX7_rank_27 : decode cX7_rank 27 = .ok (.aload_n 0, 1) := by decide +kernel
theorem dX7_rank_28 : decode cX7_rank 28 = .ok (.getfield 7, 3) := by decide +kernel
theorem dX7_rank_31 : decode cX7_rank 31 = .ok (.bipush 8, 2) := by decide +kernel
theorem dX7_rank_33 : decode cX7_rank 33 = .ok (.iload 4, 2) := by decide +kernel
theorem dX7_rank_35 : decode cX7_rank 35 = .ok (.iadd, 1) := by decide +kernel
theorem dX7_rank_36 : decode cX7_rank 36 = .ok (.iaload, 1) := by decide +kernel
theorem dX7_rank_37 : decode cX7_rank 37 = .ok (.iload_n 3, 1) := by decide +kernel
theorem dX7_rank_38 : decode cX7_rank 38 = .ok (.if_icmp .gt 23, 3) := by decide +kernel
theorem dX7_rank_41 : decode cX7_rank 41 = .ok (.aload_n 0, 1) := by decide +kernel
theorem dX7_rank_42 : decode cX7_rank 42 = .ok (.getfield 7, 3) := by decide +kernel
theorem dX7_rank_45 : decode cX7_rank 45 = .ok (.bipush 8, 2) := by decide +kernel
theorem dX7_rank_47 : decode cX7_rank 47 = .ok (.iload 4, 2) := by decide +kernel
theorem dX7_rank_49 : decode cX7_rank 49 = .ok (.iadd, 1) := by decide +kernel
theorem dX7_rank_50 : decode cX7_rank 50 = .ok (.iaload, 1) := by decide +kernel
theorem dX7_rank_51 : decode cX7_rank 51 = .ok (.iload_n 3, 1) := by decide +kernel
theorem dX7_rank_52 : decode cX7_rank 52 = .ok (.if_icmp .ne 13, 3) := by decide +kernel
theorem dX7_rank_55 : decode cX7_rank 55 = .ok (.iload 4, 2) := by decide +kernel
theorem dX7_rank_57 : decode cX7_rank 57 = .ok (.iload_n 1, 1) := by decide +kernel
theorem dX7_rank_58 : decode cX7_rank 58 = .ok (.if_icmp .ge 7, 3) := by decide +kernel
theorem dX7_rank_61 : decode cX7_rank 61 = .ok (.iconst 1, 1) := by decide +kernel
theorem dX7_rank_62 : decode cX7_rank 62 = .ok (.goto 4, 3) := by decide +kernel
theorem dX7_rank_65 : decode cX7_rank 65 = .ok (.iconst 0, 1) := by decide +kernel
theorem dX7_rank_66 : decode cX7_rank 66 = .ok (.iadd, 1) := by decide +kernel
theorem dX7_rank_67 : decode cX7_rank 67 = .ok (.istore_n 2, 1) := by decide +kernel
theorem dX7_rank_68 : decode cX7_rank 68 = .ok (.iinc 4 1, 3) := by decide +kernel
theorem dX7_rank_71 : decode cX7_rank 71 = .ok (.goto (-56), 3) := by decide +kernel
theorem dX7_rank_74 : decode cX7_rank 74 = .ok (.iload_n 2, 1) := by decide +kernel
theorem dX7_rank_75 : decode cX7_rank 75 = .ok (.ireturn, 1) := by decide +kernel
set_option maxRecDepth 20000 in
theorem ggX7_particleOf_X7_isParticle : GoodIn wsX7_particleOf wsX7_isParticle := goodIn_r _ [7, 2, 31, 32, 33, 34, 35, 36, 37, 38, 39, 40, 41, 42, 43, 44, 45, 46, 47, 48] (by decide +kernel) (by decide +kernel)
set_option maxRecDepth 20000 in
theorem gX7_particleOf_X7_isParticle : GoodIn wsX7_particleOf (wsV RX7 92 RX7 yX7_isParticle wsX7_isParticle) := goodIn_app (goodIn_of _ (by decide +kernel)) ggX7_particleOf_X7_isParticle
set_option maxRecDepth 20000 in
theorem ggX7_particleOf_X7_latest : GoodIn wsX7_particleOf wsX7_latest := goodIn_r _ [11, 2, 31, 32, 33, 34, 35, 36, 37, 38, 39, 40, 41, 42, 43, 44, 45, 46, 47, 48] (by decide +kernel) (by decide +kernel)
set_option maxRecDepth 20000 in
theorem gX7_particleOf_X7_latest : GoodIn wsX7_particleOf (wsV RX7 102 RX7 yX7_latest wsX7_latest) := goodIn_app (goodIn_of _ (by decide +kernel)) ggX7_particleOf_X7_latest
set_option maxRecDepth 20000 in
theorem ggX7_particleOf_X7_placeIn : GoodIn wsX7_particleOf wsX7_placeIn := goodIn_r _ [15, 2, 31, 32, 33, 34, 35, 36, 37, 38, 39, 40, 41, 42, 43, 44, 45, 46, 47, 48] (by decide +kernel) (by decide +kernel)
set_option maxRecDepth 20000 in
theorem gX7_particleOf_X7_placeIn : GoodIn wsX7_particleOf (wsV RX7 81 RX7 yX7_placeIn wsX7_placeIn) := goodIn_app (goodIn_of _ (by decide +kernel)) ggX7_particleOf_X7_placeIn
set_option maxRecDepth 20000 in
theorem ggX7_particleOf_X7_likePlaces : GoodIn wsX7_particleOf wsX7_likePlaces := goodIn_r _ [19, 2, 8, 9, 10, 6, 11, 12, 13, 14, 15, 31, 32, 33, 34, 35, 36, 37, 38, 39, 40, 41, 42, 43, 44, 45, 46, 47, 48] (by decide +kernel) (by decide +kernel)
set_option maxRecDepth 20000 in
theorem gX7_particleOf_X7_likePlaces : GoodIn wsX7_particleOf (wsV RX7 117 RX7 yX7_likePlaces wsX7_likePlaces) := goodIn_app (goodIn_of _ (by decide +kernel)) ggX7_particleOf_X7_likePlaces
set_option maxRecDepth 20000 in
theorem ggX7_particleOf_X7_sum : GoodIn wsX7_particleOf wsX7_sum := goodIn_r _ [23, 2, 31, 32, 33, 34, 35, 36, 37, 38, 39, 40, 41, 42, 43, 44, 45, 46, 47, 48] (by decide +kernel) (by decide +kernel)
set_option maxRecDepth 20000 in
theorem gX7_particleOf_X7_sum : GoodIn wsX7_particleOf (wsV RX7 52 RX7 yX7_sum wsX7_sum) := goodIn_app (goodIn_of _ (by decide +kernel)) ggX7_particleOf_X7_sum
set_option maxRecDepth 20000 in
theorem ggX7_particleOf_X7_part : GoodIn wsX7_particleOf wsX7_part := goodIn_r _ [26] (by decide +kernel) (by decide +kernel)
set_option maxRecDepth 20000 in
theorem gX7_particleOf_X7_part : GoodIn wsX7_particleOf (va_wsS RX7 121 yX7_part wsX7_part) := goodIn_app (goodIn_of _ (by decide +kernel)) ggX7_particleOf_X7_part
set_option maxRecDepth 20000 in
theorem ggX7_particleOf_X7_rank : GoodIn wsX7_particleOf wsX7_rank := goodIn_r _ [30, 2, 31, 32, 33, 34, 35, 36, 37, 38, 39, 40, 41, 42, 43, 44, 45, 46, 47, 48] (by decide +kernel) (by decide +kernel)
set_option maxRecDepth 20000 in
theorem gX7_particleOf_X7_rank : GoodIn wsX7_particleOf (wsV RX7 125 RX7 yX7_rank wsX7_rank) := goodIn_app (goodIn_of _ (by decide +kernel)) ggX7_particleOf_X7_rank
theorem dX7_particleOf_0 : decode cX7_particleOf 0 = .ok (.aload_n 0, 1) := by decide +kernel
theorem dX7_particleOf_1 : decode cX7_particleOf 1 = .ok (.iload_n 1, 1) := by decide +kernel
theorem dX7_particleOf_2 : decode cX7_particleOf 2 = .ok (.invokevirtual 92, 3) := by decide +kernel
theorem dX7_particleOf_5 : decode cX7_particleOf 5 = .ok (.ifCond .ne 6, 3) := by decide +kernel
theorem dX7_particleOf_8 : decode cX7_particleOf 8 = .ok (.ldc 88, 2) := by decide +kernel
theorem dX7_particleOf_10 : decode cX7_particleOf 10 = .ok (.ireturn, 1) := by decide +kernel
theorem dX7_particleOf_11 : decode cX7_particleOf 11 = .ok (.iload_n 2, 1) := by decide +kernel
theorem dX7_particleOf_12 : decode cX7_particleOf 12 = .ok (.tableswitch 116 0 6 #[44, 54, 64, 82, 88, 88, 110], 44) := by decide +kernel
theorem dX7_particleOf_56 : decode cX7_particleOf 56 = .ok (.aload_n 0, 1) := by decide +kernel
theorem dX7_particleOf_57 : decode cX7_particleOf 57 = .ok (.aload_n 0, 1) := by decide +kernel
theorem dX7_particleOf_58 : decode cX7_particleOf 58 = .ok (.invokevirtual 102, 3) := by decide +kernel
theorem dX7_particleOf_61 : decode cX7_particleOf 61 = .ok (.iload_n 1, 1) := by decide +kernel
theorem dX7_particleOf_62 : decode cX7_particleOf 62 = .ok (.invokevirtual 81, 3) := by decide +kernel
theorem dX7_particleOf_65 : decode cX7_particleOf 65 = .ok (.ireturn, 1) := by decide +kernel
theorem dX7_particleOf_66 : decode cX7_particleOf 66 = .ok (.aload_n 0, 1) := by decide +kernel
theorem dX7_particleOf_67 : decode cX7_particleOf 67 = .ok (.getfield 7, 3) := by decide +kernel
theorem dX7_particleOf_70 : decode cX7_particleOf 70 = .ok (.bipush 8, 2) := by decide +kernel
theorem dX7_particleOf_72 : decode cX7_particleOf 72 = .ok (.iload_n 1, 1) := by decide +kernel
theorem dX7_particleOf_73 : decode cX7_particleOf 73 = .ok (.iadd, 1) := by decide +kernel
theorem dX7_particleOf_74 : decode cX7_particleOf 74 = .ok (.iaload, 1) := by decide +kernel
theorem dX7_particleOf_75 : decode cX7_particleOf 75 = .ok (.ireturn, 1) := by decide +kernel
theorem dX7_particleOf_76 : decode cX7_particleOf 76 = .ok (.aload_n 0, 1) := by decide +kernel
theorem dX7_particleOf_77 : decode cX7_particleOf 77 = .ok (.getfield 7, 3) := by decide +kernel
theorem dX7_particleOf_80 : decode cX7_particleOf 80 = .ok (.bipush 100, 2) := by decide +kernel
theorem dX7_particleOf_82 : decode cX7_particleOf 82 = .ok (.bipush 12, 2) := by decide +kernel
theorem dX7_particleOf_84 : decode cX7_particleOf 84 = .ok (.aload_n 0, 1) := by decide +kernel
theorem dX7_particleOf_85 : decode cX7_particleOf 85 = .ok (.invokevirtual 102, 3) := by decide +kernel
theorem dX7_particleOf_88 : decode cX7_particleOf 88 = .ok (.imul, 1) := by decide +kernel
theorem dX7_particleOf_89 : decode cX7_particleOf 89 = .ok (.iadd, 1) := by decide +kernel
theorem dX7_particleOf_90 : decode cX7_particleOf 90 = .ok (.iload_n 1, 1) := by decide +kernel
theorem dX7_particleOf_91 : decode cX7_particleOf 91 = .ok (.iadd, 1) := by decide +kernel
theorem dX7_particleOf_92 : decode cX7_particleOf 92 = .ok (.iaload, 1) := by decide +kernel
theorem dX7_particleOf_93 : decode cX7_particleOf 93 = .ok (.ireturn, 1) := by decide +kernel
theorem dX7_particleOf_94 : decode cX7_particleOf 94 = .ok (.aload_n 0, 1) := by decide +kernel
theorem dX7_particleOf_95 : decode cX7_particleOf 95 = .ok (.iload_n 1, 1) := by decide +kernel
theorem dX7_particleOf_96 : decode cX7_particleOf 96 = .ok (.invokevirtual 117, 3) := by decide +kernel
theorem dX7_particleOf_99 : decode cX7_particleOf 99 = .ok (.ireturn, 1) := by decide +kernel
theorem dX7_particleOf_100 : decode cX7_particleOf 100 = .ok (.aload_n 0, 1) := by decide +kernel
theorem dX7_particleOf_101 : decode cX7_particleOf 101 = .ok (.getfield 7, 3) := by decide +kernel
theorem dX7_particleOf_104 : decode cX7_particleOf 104 = .ok (.bipush 8, 2) := by decide +kernel
theorem dX7_particleOf_106 : decode cX7_particleOf 106 = .ok (.iload_n 1, 1) := by decide +kernel
theorem dX7_particleOf_107 : decode cX7_particleOf 107 = .ok (.iadd, 1) := by decide +kernel
theorem dX7_particleOf_108 : decode cX7_particleOf 108 = .ok (.iaload, 1) := by decide +kernel
theorem dX7_particleOf_109 : decode cX7_particleOf 109 = .ok (.i2l, 1) := by decide +kernel
theorem dX7_particleOf_110 : decode cX7_particleOf 110 = .ok (.aload_n 0, 1) := by decide +kernel
theorem dX7_particleOf_111 : decode cX7_particleOf 111 = .ok (.invokevirtual 52, 3) := by decide +kernel
theorem dX7_particleOf_114 : decode cX7_particleOf 114 = .ok (.i2l, 1) := by decide +kernel
theorem dX7_particleOf_115 : decode cX7_particleOf 115 = .ok (.iload_n 2, 1) := by decide +kernel
theorem dX7_particleOf_116 : decode cX7_particleOf 116 = .ok (.iconst 4, 1) := by decide +kernel
theorem dX7_particleOf_117 : decode cX7_particleOf 117 = .ok (.isub, 1) := by decide +kernel
theorem dX7_particleOf_118 : decode cX7_particleOf 118 = .ok (.invokestatic 121, 3) := by decide +kernel
theorem dX7_particleOf_121 : decode cX7_particleOf 121 = .ok (.ireturn, 1) := by decide +kernel
theorem dX7_particleOf_122 : decode cX7_particleOf 122 = .ok (.aload_n 0, 1) := by decide +kernel
theorem dX7_particleOf_123 : decode cX7_particleOf 123 = .ok (.iload_n 1, 1) := by decide +kernel
theorem dX7_particleOf_124 : decode cX7_particleOf 124 = .ok (.invokevirtual 125, 3) := by decide +kernel
theorem dX7_particleOf_127 : decode cX7_particleOf 127 = .ok (.ireturn, 1) := by decide +kernel
theorem dX7_particleOf_128 : decode cX7_particleOf 128 = .ok (.ldc 88, 2) := by decide +kernel
theorem dX7_particleOf_130 : decode cX7_particleOf 130 = .ok (.ireturn, 1) := by decide +kernel
set_option maxRecDepth 20000 in
theorem ggX7_up_X7_latest : GoodIn wsX7_up wsX7_latest := goodIn_r _ [6, 1, 7, 8, 9, 10, 11, 12, 13, 14, 15, 16, 17, 18, 19, 20, 21, 22, 23, 24] (by decide +kernel) (by decide +kernel)
set_option maxRecDepth 20000 in
theorem gX7_up_X7_latest : GoodIn wsX7_up (wsV RX7 102 RX7 yX7_latest wsX7_latest) := goodIn_app (goodIn_of _ (by decide +kernel)) ggX7_up_X7_latest
theorem dX7_up_0 : decode cX7_up 0 = .ok (.iload_n 1, 1) := by decide +kernel
theorem dX7_up_1 : decode cX7_up 1 = .ok (.istore_n 3, 1) := by decide +kernel
theorem dX7_up_2 : decode cX7_up 2 = .ok (.aload_n 0, 1) := by decide +kernel
theorem dX7_up_3 : decode cX7_up 3 = .ok (.invokevirtual 102, 3) := by decide +kernel
theorem dX7_up_6 : decode cX7_up 6 = .ok (.istore 4, 2) := by decide +kernel
theorem dX7_up_8 : decode cX7_up 8 = .ok (.iload 4, 2) := by decide +kernel
theorem dX7_up_10 : decode cX7_up 10 = .ok (.iload_n 2, 1) := by decide +kernel
theorem dX7_up_11 : decode cX7_up 11 = .ok (.if_icmp .le 25, 3) := by decide +kernel
theorem dX7_up_14 : decode cX7_up 14 = .ok (.aload_n 0, 1) := by decide +kernel
theorem dX7_up_15 : decode cX7_up 15 = .ok (.getfield 7, 3) := by decide +kernel
theorem dX7_up_18 : decode cX7_up 18 = .ok (.bipush 100, 2) := by decide +kernel
theorem dX7_up_20 : decode cX7_up 20 = .ok (.bipush 12, 2) := by decide +kernel
theorem dX7_up_22 : decode cX7_up 22 = .ok (.iload 4, 2) := by decide +kernel
theorem dX7_up_24 : decode cX7_up 24 = .ok (.imul, 1) := by decide +kernel
theorem dX7_up_25 : decode cX7_up 25 = .ok (.iadd, 1) := by decide +kernel
theorem dX7_up_26 : decode cX7_up 26 = .ok (.iload_n 3, 1) := by decide +kernel
theorem dX7_up_27 : decode cX7_up 27 = .ok (.iadd, 1) := by decide +kernel
theorem dX7_up_28 : decode cX7_up 28 = .ok (.iaload, 1) := by decide +kernel
theorem dX7_up_29 : decode cX7_up 29 = .ok (.istore_n 3, 1) := by decide +kernel
theorem dX7_up_30 : decode cX7_up 30 = .ok (.iinc 4 (-1), 3) := by decide +kernel
theorem dX7_up_33 : decode cX7_up 33 = .ok (.goto (-25), 3) := by decide +kernel
theorem dX7_up_36 : decode cX7_up 36 = .ok (.iload_n 3, 1) := by decide +kernel
theorem dX7_up_37 : decode cX7_up 37 = .ok (.ireturn, 1) := by decide +kernel
set_option maxRecDepth 20000 in
theorem ggX7_alive_X7_up : GoodIn wsX7_alive wsX7_up := goodIn_r _ [6, 1, 7, 8, 9, 5, 10, 11, 12, 13, 14, 15, 16, 17, 18, 19, 20, 21, 22, 23, 24, 25, 26, 27, 28] (by decide +kernel) (by decide +kernel)
set_option maxRecDepth 20000 in
theorem gX7_alive_X7_up : GoodIn wsX7_alive (wsV RX7 128 RX7 yX7_up wsX7_up) := goodIn_app (goodIn_of _ (by decide +kernel)) ggX7_alive_X7_up
theorem dX7_alive_0 : decode cX7_alive 0 = .ok (.iconst 0, 1) := by decide +kernel
theorem dX7_alive_1 : decode cX7_alive 1 = .ok (.istore_n 2, 1) := by decide +kernel
theorem dX7_alive_2 : decode cX7_alive 2 = .ok (.iconst 0, 1) := by decide +kernel
theorem dX7_alive_3 : decode cX7_alive 3 = .ok (.istore_n 3, 1) := by decide +kernel
theorem dX7_alive_4 : decode cX7_alive 4 = .ok (.iconst 0, 1) := by decide +kernel
theorem dX7_alive_5 : decode cX7_alive 5 = .ok (.istore 4, 2) := by decide +kernel
theorem dX7_alive_7 : decode cX7_alive 7 = .ok (.iload 4, 2) := by decide +kernel
theorem dX7_alive_9 : decode cX7_alive 9 = .ok (.aload_n 0, 1) := by decide +kernel
theorem dX7_alive_10 : decode cX7_alive 10 = .ok (.getfield 7, 3) := by decide +kernel
theorem dX7_alive_13 : decode cX7_alive 13 = .ok (.iconst 0, 1) := by decide +kernel
theorem dX7_alive_14 : decode cX7_alive 14 = .ok (.iaload, 1) := by decide +kernel
theorem dX7_alive_15 : decode cX7_alive 15 = .ok (.if_icmp .ge 21, 3) := by decide +kernel
theorem dX7_alive_18 : decode cX7_alive 18 = .ok (.iload_n 2, 1) := by decide +kernel
theorem dX7_alive_19 : decode cX7_alive 19 = .ok (.iconst 1, 1) := by decide +kernel
theorem dX7_alive_20 : decode cX7_alive 20 = .ok (.aload_n 0, 1) := by decide +kernel
theorem dX7_alive_21 : decode cX7_alive 21 = .ok (.iload 4, 2) := by decide +kernel
theorem dX7_alive_23 : decode cX7_alive 23 = .ok (.iload_n 1, 1) := by decide +kernel
theorem dX7_alive_24 : decode cX7_alive 24 = .ok (.invokevirtual 128, 3) := by decide +kernel
theorem dX7_alive_27 : decode cX7_alive 27 = .ok (.ishl, 1) := by decide +kernel
theorem dX7_alive_28 : decode cX7_alive 28 = .ok (.ior, 1) := by decide +kernel
theorem dX7_alive_29 : decode cX7_alive 29 = .ok (.istore_n 2, 1) := by decide +kernel
theorem dX7_alive_30 : decode cX7_alive 30 = .ok (.iinc 4 1, 3) := by decide +kernel
theorem dX7_alive_33 : decode cX7_alive 33 = .ok (.goto (-26), 3) := by decide +kernel
theorem dX7_alive_36 : decode cX7_alive 36 = .ok (.iconst 0, 1) := by decide +kernel
theorem dX7_alive_37 : decode cX7_alive 37 = .ok (.istore 4, 2) := by decide +kernel
theorem dX7_alive_39 : decode cX7_alive 39 = .ok (.iload 4, 2) := by decide +kernel
theorem dX7_alive_41 : decode cX7_alive 41 = .ok (.aload_n 0, 1) := by decide +kernel
theorem dX7_alive_42 : decode cX7_alive 42 = .ok (.getfield 7, 3) := by decide +kernel
theorem dX7_alive_45 : decode cX7_alive 45 = .ok (.iconst 0, 1) := by decide +kernel
theorem dX7_alive_46 : decode cX7_alive 46 = .ok (.iaload, 1) := by decide +kernel
theorem dX7_alive_47 : decode cX7_alive 47 = .ok (.if_icmp .ge 18, 3) := by decide +kernel
theorem dX7_alive_50 : decode cX7_alive 50 = .ok (.iload_n 3, 1) := by decide +kernel
theorem dX7_alive_51 : decode cX7_alive 51 = .ok (.iload_n 2, 1) := by decide +kernel
theorem dX7_alive_52 : decode cX7_alive 52 = .ok (.iload 4, 2) := by decide +kernel
theorem dX7_alive_54 : decode cX7_alive 54 = .ok (.ishr, 1) := by decide +kernel
theorem dX7_alive_55 : decode cX7_alive 55 = .ok (.iconst 1, 1) := by decide +kernel
theorem dX7_alive_56 : decode cX7_alive 56 = .ok (.iand, 1) := by decide +kernel
theorem dX7_alive_57 : decode cX7_alive 57 = .ok (.iadd, 1) := by decide +kernel
theorem dX7_alive_58 : decode cX7_alive 58 = .ok (.istore_n 3, 1) := by decide +kernel
theorem dX7_alive_59 : decode cX7_alive 59 = .ok (.iinc 4 1, 3) := by decide +kernel
theorem dX7_alive_62 : decode cX7_alive 62 = .ok (.goto (-23), 3) := by decide +kernel
theorem dX7_alive_65 : decode cX7_alive 65 = .ok (.iload_n 3, 1) := by decide +kernel
theorem dX7_alive_66 : decode cX7_alive 66 = .ok (.ireturn, 1) := by decide +kernel
set_option maxRecDepth 20000 in
theorem ggX7_generationOf_X7_isGeneration : GoodIn wsX7_generationOf wsX7_isGeneration := goodIn_r _ [8, 2, 28, 29, 30, 31, 32, 33, 34, 35, 36, 37, 38, 39, 40, 41, 42, 43, 44, 45] (by decide +kernel) (by decide +kernel)
set_option maxRecDepth 20000 in
theorem gX7_generationOf_X7_isGeneration : GoodIn wsX7_generationOf (wsV RX7 131 RX7 yX7_isGeneration wsX7_isGeneration) := goodIn_app (goodIn_of _ (by decide +kernel)) ggX7_generationOf_X7_isGeneration
set_option maxRecDepth 20000 in
theorem ggX7_generationOf_X7_in : GoodIn wsX7_generationOf wsX7_in := goodIn_r _ [11] (by decide +kernel) (by decide +kernel)
set_option maxRecDepth 20000 in
theorem gX7_generationOf_X7_in : GoodIn wsX7_generationOf (va_wsS RX7 84 yX7_in wsX7_in) := goodIn_app (goodIn_of _ (by decide +kernel)) ggX7_generationOf_X7_in
set_option maxRecDepth 20000 in
theorem ggX7_generationOf_X7_alive : GoodIn wsX7_generationOf wsX7_alive := goodIn_r _ [15, 2, 16, 17, 18, 7, 19, 20, 21, 22, 23, 28, 29, 30, 31, 32, 33, 34, 35, 36, 37, 38, 39, 40, 41, 42, 43, 44, 45] (by decide +kernel) (by decide +kernel)
set_option maxRecDepth 20000 in
theorem gX7_generationOf_X7_alive : GoodIn wsX7_generationOf (wsV RX7 134 RX7 yX7_alive wsX7_alive) := goodIn_app (goodIn_of _ (by decide +kernel)) ggX7_generationOf_X7_alive
set_option maxRecDepth 20000 in
theorem ggX7_generationOf_X7_unlike : GoodIn wsX7_generationOf wsX7_unlike := goodIn_r _ [27, 2, 28, 29, 30, 31, 32, 33, 34, 35, 36, 37, 38, 39, 40, 41, 42, 43, 44, 45] (by decide +kernel) (by decide +kernel)
set_option maxRecDepth 20000 in
theorem gX7_generationOf_X7_unlike : GoodIn wsX7_generationOf (wsV RX7 114 RX7 yX7_unlike wsX7_unlike) := goodIn_app (goodIn_of _ (by decide +kernel)) ggX7_generationOf_X7_unlike
theorem dX7_generationOf_0 : decode cX7_generationOf 0 = .ok (.aload_n 0, 1) := by decide +kernel
theorem dX7_generationOf_1 : decode cX7_generationOf 1 = .ok (.iload_n 1, 1) := by decide +kernel
theorem dX7_generationOf_2 : decode cX7_generationOf 2 = .ok (.invokevirtual 131, 3) := by decide +kernel
theorem dX7_generationOf_5 : decode cX7_generationOf 5 = .ok (.ifCond .eq 12, 3) := by decide +kernel
theorem dX7_generationOf_8 : decode cX7_generationOf 8 = .ok (.iload_n 2, 1) := by decide +kernel
theorem dX7_generationOf_9 : decode cX7_generationOf 9 = .ok (.iconst 0, 1) := by decide +kernel
theorem dX7_generationOf_10 : decode cX7_generationOf 10 = .ok (.iconst 5, 1) := by decide +kernel
theorem dX7_generationOf_11 : decode cX7_generationOf 11 = .ok (.invokestatic 84, 3) := by decide +kernel
theorem dX7_generationOf_14 : decode cX7_generationOf 14 = .ok (.ifCond .ne 6, 3) := by decide +kernel
theorem dX7_generationOf_17 : decode cX7_generationOf 17 = .ok (.ldc 88, 2) := by decide +kernel
theorem dX7_generationOf_19 : decode cX7_generationOf 19 = .ok (.ireturn, 1) := by decide +kernel
theorem dX7_generationOf_20 : decode cX7_generationOf 20 = .ok (.bipush 20, 2) := by decide +kernel
theorem dX7_generationOf_22 : decode cX7_generationOf 22 = .ok (.iconst 4, 1) := by decide +kernel
theorem dX7_generationOf_23 : decode cX7_generationOf 23 = .ok (.iload_n 1, 1) := by decide +kernel
theorem dX7_generationOf_24 : decode cX7_generationOf 24 = .ok (.imul, 1) := by decide +kernel
theorem dX7_generationOf_25 : decode cX7_generationOf 25 = .ok (.iadd, 1) := by decide +kernel
theorem dX7_generationOf_26 : decode cX7_generationOf 26 = .ok (.istore_n 3, 1) := by decide +kernel
theorem dX7_generationOf_27 : decode cX7_generationOf 27 = .ok (.iload_n 2, 1) := by decide +kernel
theorem dX7_generationOf_28 : decode cX7_generationOf 28 = .ok (.tableswitch 124 0 4 #[36, 43, 70, 94, 118], 36) := by decide +kernel
theorem dX7_generationOf_64 : decode cX7_generationOf 64 = .ok (.aload_n 0, 1) := by decide +kernel
theorem dX7_generationOf_65 : decode cX7_generationOf 65 = .ok (.getfield 7, 3) := by decide +kernel
theorem dX7_generationOf_68 : decode cX7_generationOf 68 = .ok (.iload_n 3, 1) := by decide +kernel
theorem dX7_generationOf_69 : decode cX7_generationOf 69 = .ok (.iaload, 1) := by decide +kernel
theorem dX7_generationOf_70 : decode cX7_generationOf 70 = .ok (.ireturn, 1) := by decide +kernel
theorem dX7_generationOf_71 : decode cX7_generationOf 71 = .ok (.aload_n 0, 1) := by decide +kernel
theorem dX7_generationOf_72 : decode cX7_generationOf 72 = .ok (.getfield 7, 3) := by decide +kernel
theorem dX7_generationOf_75 : decode cX7_generationOf 75 = .ok (.iload_n 3, 1) := by decide +kernel
theorem dX7_generationOf_76 : decode cX7_generationOf 76 = .ok (.iaload, 1) := by decide +kernel
theorem dX7_generationOf_77 : decode cX7_generationOf 77 = .ok (.iconst 1, 1) := by decide +kernel
theorem dX7_generationOf_78 : decode cX7_generationOf 78 = .ok (.if_icmp .ne 17, 3) := by decide +kernel
theorem dX7_generationOf_81 : decode cX7_generationOf 81 = .ok (.aload_n 0, 1) := by decide +kernel
theorem dX7_generationOf_82 : decode cX7_generationOf 82 = .ok (.getfield 7, 3) := by decide +kernel
theorem dX7_generationOf_85 : decode cX7_generationOf 85 = .ok (.iload_n 3, 1) := by decide +kernel
theorem dX7_generationOf_86 : decode cX7_generationOf 86 = .ok (.iconst 1, 1) := by decide +kernel
theorem dX7_generationOf_87 : decode cX7_generationOf 87 = .ok (.iadd, 1) := by decide +kernel
theorem dX7_generationOf_88 : decode cX7_generationOf 88 = .ok (.iaload, 1) := by decide +kernel
theorem dX7_generationOf_89 : decode cX7_generationOf 89 = .ok (.bipush 100, 2) := by decide +kernel
theorem dX7_generationOf_91 : decode cX7_generationOf 91 = .ok (.iadd, 1) := by decide +kernel
theorem dX7_generationOf_92 : decode cX7_generationOf 92 = .ok (.goto 5, 3) := by decide +kernel
theorem dX7_generationOf_95 : decode cX7_generationOf 95 = .ok (.ldc 50, 2) := by decide +kernel
theorem dX7_generationOf_97 : decode cX7_generationOf 97 = .ok (.ireturn, 1) := by decide +kernel
theorem dX7_generationOf_98 : decode cX7_generationOf 98 = .ok (.aload_n 0, 1) := by decide +kernel
theorem dX7_generationOf_99 : decode cX7_generationOf 99 = .ok (.getfield 7, 3) := by decide +kernel
theorem dX7_generationOf_102 : decode cX7_generationOf 102 = .ok (.iload_n 3, 1) := by decide +kernel
theorem dX7_generationOf_103 : decode cX7_generationOf 103 = .ok (.iaload, 1) := by decide +kernel
theorem dX7_generationOf_104 : decode cX7_generationOf 104 = .ok (.iconst 1, 1) := by decide +kernel
theorem dX7_generationOf_105 : decode cX7_generationOf 105 = .ok (.if_icmp .ne 14, 3) := by decide +kernel
theorem dX7_generationOf_108 : decode cX7_generationOf 108 = .ok (.aload_n 0, 1) := by decide +kernel
theorem dX7_generationOf_109 : decode cX7_generationOf 109 = .ok (.getfield 7, 3) := by decide +kernel
theorem dX7_generationOf_112 : decode cX7_generationOf 112 = .ok (.iload_n 3, 1) := by decide +kernel
theorem dX7_generationOf_113 : decode cX7_generationOf 113 = .ok (.iconst 2, 1) := by decide +kernel
theorem dX7_generationOf_114 : decode cX7_generationOf 114 = .ok (.iadd, 1) := by decide +kernel
theorem dX7_generationOf_115 : decode cX7_generationOf 115 = .ok (.iaload, 1) := by decide +kernel
theorem dX7_generationOf_116 : decode cX7_generationOf 116 = .ok (.goto 5, 3) := by decide +kernel
theorem dX7_generationOf_119 : decode cX7_generationOf 119 = .ok (.ldc 50, 2) := by decide +kernel
theorem dX7_generationOf_121 : decode cX7_generationOf 121 = .ok (.ireturn, 1) := by decide +kernel
theorem dX7_generationOf_122 : decode cX7_generationOf 122 = .ok (.aload_n 0, 1) := by decide +kernel
theorem dX7_generationOf_123 : decode cX7_generationOf 123 = .ok (.getfield 7, 3) := by decide +kernel
theorem dX7_generationOf_126 : decode cX7_generationOf 126 = .ok (.iload_n 3, 1) := by decide +kernel
theorem dX7_generationOf_127 : decode cX7_generationOf 127 = .ok (.iaload, 1) := by decide +kernel
theorem dX7_generationOf_128 : decode cX7_generationOf 128 = .ok (.iconst 2, 1) := by decide +kernel
theorem dX7_generationOf_129 : decode cX7_generationOf 129 = .ok (.if_icmp .ne 14, 3) := by decide +kernel
theorem dX7_generationOf_132 : decode cX7_generationOf 132 = .ok (.aload_n 0, 1) := by decide +kernel
theorem dX7_generationOf_133 : decode cX7_generationOf 133 = .ok (.getfield 7, 3) := by decide +kernel
theorem dX7_generationOf_136 : decode cX7_generationOf 136 = .ok (.iload_n 3, 1) := by decide +kernel
theorem dX7_generationOf_137 : decode cX7_generationOf 137 = .ok (.iconst 3, 1) := by decide +kernel
theorem dX7_generationOf_138 : decode cX7_generationOf 138 = .ok (.iadd, 1) := by decide +kernel
theorem dX7_generationOf_139 : decode cX7_generationOf 139 = .ok (.iaload, 1) := by decide +kernel
theorem dX7_generationOf_140 : decode cX7_generationOf 140 = .ok (.goto 5, 3) := by decide +kernel
theorem dX7_generationOf_143 : decode cX7_generationOf 143 = .ok (.ldc 50, 2) := by decide +kernel
theorem dX7_generationOf_145 : decode cX7_generationOf 145 = .ok (.ireturn, 1) := by decide +kernel
theorem dX7_generationOf_146 : decode cX7_generationOf 146 = .ok (.aload_n 0, 1) := by decide +kernel
theorem dX7_generationOf_147 : decode cX7_generationOf 147 = .ok (.iload_n 1, 1) := by decide +kernel
theorem dX7_generationOf_148 : decode cX7_generationOf 148 = .ok (.invokevirtual 134, 3) := by decide +kernel
theorem dX7_generationOf_151 : decode cX7_generationOf 151 = .ok (.ireturn, 1) := by decide +kernel
theorem dX7_generationOf_152 : decode cX7_generationOf 152 = .ok (.aload_n 0, 1) := by decide +kernel
theorem dX7_generationOf_153 : decode cX7_generationOf 153 = .ok (.iload_n 1, 1) := by decide +kernel
theorem dX7_generationOf_154 : decode cX7_generationOf 154 = .ok (.sipush 340, 3) := by decide +kernel
theorem dX7_generationOf_157 : decode cX7_generationOf 157 = .ok (.invokevirtual 114, 3) := by decide +kernel
theorem dX7_generationOf_160 : decode cX7_generationOf 160 = .ok (.ireturn, 1) := by decide +kernel
set_option maxRecDepth 20000 in
theorem ggX7_ancestor_X7_isParticle : GoodIn wsX7_ancestor wsX7_isParticle := goodIn_r _ [6, 7, 27, 28, 29, 30, 31, 32, 33, 34, 35, 36, 37, 38, 39, 40, 41, 42, 43, 44] (by decide +kernel) (by decide +kernel)
set_option maxRecDepth 20000 in
theorem gX7_ancestor_X7_isParticle : GoodIn wsX7_ancestor (wsV RX7 92 RX7 yX7_isParticle wsX7_isParticle) := goodIn_app (goodIn_of _ (by decide +kernel)) ggX7_ancestor_X7_isParticle
set_option maxRecDepth 20000 in
theorem ggX7_ancestor_X7_isGeneration : GoodIn wsX7_ancestor wsX7_isGeneration := goodIn_r _ [11, 7, 27, 28, 29, 30, 31, 32, 33, 34, 35, 36, 37, 38, 39, 40, 41, 42, 43, 44] (by decide +kernel) (by decide +kernel)
set_option maxRecDepth 20000 in
theorem gX7_ancestor_X7_isGeneration : GoodIn wsX7_ancestor (wsV RX7 131 RX7 yX7_isGeneration wsX7_isGeneration) := goodIn_app (goodIn_of _ (by decide +kernel)) ggX7_ancestor_X7_isGeneration
set_option maxRecDepth 20000 in
theorem ggX7_ancestor_X7_in : GoodIn wsX7_ancestor wsX7_in := goodIn_r _ [14] (by decide +kernel) (by decide +kernel)
set_option maxRecDepth 20000 in
theorem gX7_ancestor_X7_in : GoodIn wsX7_ancestor (va_wsS RX7 84 yX7_in wsX7_in) := goodIn_app (goodIn_of _ (by decide +kernel)) ggX7_ancestor_X7_in
set_option maxRecDepth 20000 in
theorem ggX7_ancestor_X7_up : GoodIn wsX7_ancestor wsX7_up := goodIn_r _ [18, 7, 19, 20, 21, 5, 22, 27, 28, 29, 30, 31, 32, 33, 34, 35, 36, 37, 38, 39, 40, 41, 42, 43, 44] (by decide +kernel) (by decide +kernel)
set_option maxRecDepth 20000 in
theorem gX7_ancestor_X7_up : GoodIn wsX7_ancestor (wsV RX7 128 RX7 yX7_up wsX7_up) := goodIn_app (goodIn_of _ (by decide +kernel)) ggX7_ancestor_X7_up
set_option maxRecDepth 20000 in
theorem ggX7_ancestor_X7_placeIn : GoodIn wsX7_ancestor wsX7_placeIn := goodIn_r _ [26, 7, 27, 28, 29, 30, 31, 32, 33, 34, 35, 36, 37, 38, 39, 40, 41, 42, 43, 44] (by decide +kernel) (by decide +kernel)
set_option maxRecDepth 20000 in
theorem gX7_ancestor_X7_placeIn : GoodIn wsX7_ancestor (wsV RX7 81 RX7 yX7_placeIn wsX7_placeIn) := goodIn_app (goodIn_of _ (by decide +kernel)) ggX7_ancestor_X7_placeIn
theorem dX7_ancestor_0 : decode cX7_ancestor 0 = .ok (.aload_n 0, 1) := by decide +kernel
theorem dX7_ancestor_1 : decode cX7_ancestor 1 = .ok (.iload_n 1, 1) := by decide +kernel
theorem dX7_ancestor_2 : decode cX7_ancestor 2 = .ok (.invokevirtual 92, 3) := by decide +kernel
theorem dX7_ancestor_5 : decode cX7_ancestor 5 = .ok (.ifCond .eq 20, 3) := by decide +kernel
theorem dX7_ancestor_8 : decode cX7_ancestor 8 = .ok (.aload_n 0, 1) := by decide +kernel
theorem dX7_ancestor_9 : decode cX7_ancestor 9 = .ok (.iload_n 2, 1) := by decide +kernel
theorem dX7_ancestor_10 : decode cX7_ancestor 10 = .ok (.invokevirtual 131, 3) := by decide +kernel
theorem dX7_ancestor_13 : decode cX7_ancestor 13 = .ok (.ifCond .eq 12, 3) := by decide +kernel
theorem dX7_ancestor_16 : decode cX7_ancestor 16 = .ok (.iload_n 3, 1) := by decide +kernel
theorem dX7_ancestor_17 : decode cX7_ancestor 17 = .ok (.iconst 0, 1) := by decide +kernel
theorem dX7_ancestor_18 : decode cX7_ancestor 18 = .ok (.iconst 1, 1) := by decide +kernel
theorem dX7_ancestor_19 : decode cX7_ancestor 19 = .ok (.invokestatic 84, 3) := by decide +kernel
theorem dX7_ancestor_22 : decode cX7_ancestor 22 = .ok (.ifCond .ne 6, 3) := by decide +kernel
theorem dX7_ancestor_25 : decode cX7_ancestor 25 = .ok (.ldc 88, 2) := by decide +kernel
theorem dX7_ancestor_27 : decode cX7_ancestor 27 = .ok (.ireturn, 1) := by decide +kernel
theorem dX7_ancestor_28 : decode cX7_ancestor 28 = .ok (.aload_n 0, 1) := by decide +kernel
theorem dX7_ancestor_29 : decode cX7_ancestor 29 = .ok (.iload_n 1, 1) := by decide +kernel
theorem dX7_ancestor_30 : decode cX7_ancestor 30 = .ok (.iload_n 2, 1) := by decide +kernel
theorem dX7_ancestor_31 : decode cX7_ancestor 31 = .ok (.invokevirtual 128, 3) := by decide +kernel
theorem dX7_ancestor_34 : decode cX7_ancestor 34 = .ok (.istore 4, 2) := by decide +kernel
theorem dX7_ancestor_36 : decode cX7_ancestor 36 = .ok (.iload_n 3, 1) := by decide +kernel
theorem dX7_ancestor_37 : decode cX7_ancestor 37 = .ok (.ifCond .ne 8, 3) := by decide +kernel
theorem dX7_ancestor_40 : decode cX7_ancestor 40 = .ok (.iload 4, 2) := by decide +kernel
theorem dX7_ancestor_42 : decode cX7_ancestor 42 = .ok (.goto 10, 3) := by decide +kernel
theorem dX7_ancestor_45 : decode cX7_ancestor 45 = .ok (.aload_n 0, 1) := by decide +kernel
theorem dX7_ancestor_46 : decode cX7_ancestor 46 = .ok (.iload_n 2, 1) := by decide +kernel
theorem dX7_ancestor_47 : decode cX7_ancestor 47 = .ok (.iload 4, 2) := by decide +kernel
theorem dX7_ancestor_49 : decode cX7_ancestor 49 = .ok (.invokevirtual 81, 3) := by decide +kernel
theorem dX7_ancestor_52 : decode cX7_ancestor 52 = .ok (.ireturn, 1) := by decide +kernel
set_option maxRecDepth 20000 in
theorem ggX7_meeting_X7_latest : GoodIn wsX7_meeting wsX7_latest := goodIn_r _ [7, 1, 12, 13, 14, 15, 16, 17, 18, 19, 20, 21, 22, 23, 24, 25, 26, 27, 28, 29] (by decide +kernel) (by decide +kernel)
set_option maxRecDepth 20000 in
theorem gX7_meeting_X7_latest : GoodIn wsX7_meeting (wsV RX7 102 RX7 yX7_latest wsX7_latest) := goodIn_app (goodIn_of _ (by decide +kernel)) ggX7_meeting_X7_latest
set_option maxRecDepth 20000 in
theorem ggX7_meeting_X7_up : GoodIn wsX7_meeting wsX7_up := goodIn_r _ [11, 1, 3, 4, 5, 6, 7, 12, 13, 14, 15, 16, 17, 18, 19, 20, 21, 22, 23, 24, 25, 26, 27, 28, 29] (by decide +kernel) (by decide +kernel)
set_option maxRecDepth 20000 in
theorem gX7_meeting_X7_up : GoodIn wsX7_meeting (wsV RX7 128 RX7 yX7_up wsX7_up) := goodIn_app (goodIn_of _ (by decide +kernel)) ggX7_meeting_X7_up
theorem dX7_meeting_0 : decode cX7_meeting 0 = .ok (.aload_n 0, 1) := by decide +kernel
theorem dX7_meeting_1 : decode cX7_meeting 1 = .ok (.invokevirtual 102, 3) := by decide +kernel
theorem dX7_meeting_4 : decode cX7_meeting 4 = .ok (.istore 4, 2) := by decide +kernel
theorem dX7_meeting_6 : decode cX7_meeting 6 = .ok (.iload 4, 2) := by decide +kernel
theorem dX7_meeting_8 : decode cX7_meeting 8 = .ok (.ifCond .lt 95, 3) := by decide +kernel
theorem dX7_meeting_11 : decode cX7_meeting 11 = .ok (.aload_n 0, 1) := by decide +kernel
theorem dX7_meeting_12 : decode cX7_meeting 12 = .ok (.iload_n 1, 1) := by decide +kernel
theorem dX7_meeting_13 : decode cX7_meeting 13 = .ok (.iload 4, 2) := by decide +kernel
theorem dX7_meeting_15 : decode cX7_meeting 15 = .ok (.invokevirtual 128, 3) := by decide +kernel
theorem dX7_meeting_18 : decode cX7_meeting 18 = .ok (.aload_n 0, 1) := by decide +kernel
theorem dX7_meeting_19 : decode cX7_meeting 19 = .ok (.iload_n 2, 1) := by decide +kernel
theorem dX7_meeting_20 : decode cX7_meeting 20 = .ok (.iload 4, 2) := by decide +kernel
theorem dX7_meeting_22 : decode cX7_meeting 22 = .ok (.invokevirtual 128, 3) := by decide +kernel
theorem dX7_meeting_25 : decode cX7_meeting 25 = .ok (.if_icmp .ne 7, 3) := by decide +kernel
theorem dX7_meeting_28 : decode cX7_meeting 28 = .ok (.iconst 1, 1) := by decide +kernel
theorem dX7_meeting_29 : decode cX7_meeting 29 = .ok (.goto 4, 3) := by decide +kernel
theorem dX7_meeting_32 : decode cX7_meeting 32 = .ok (.iconst 0, 1) := by decide +kernel
theorem dX7_meeting_33 : decode cX7_meeting 33 = .ok (.istore 5, 2) := by decide +kernel
theorem dX7_meeting_35 : decode cX7_meeting 35 = .ok (.iconst 0, 1) := by decide +kernel
theorem dX7_meeting_36 : decode cX7_meeting 36 = .ok (.istore 6, 2) := by decide +kernel
theorem dX7_meeting_38 : decode cX7_meeting 38 = .ok (.iload 6, 2) := by decide +kernel
theorem dX7_meeting_40 : decode cX7_meeting 40 = .ok (.aload_n 0, 1) := by decide +kernel
theorem dX7_meeting_41 : decode cX7_meeting 41 = .ok (.getfield 7, 3) := by decide +kernel
theorem dX7_meeting_44 : decode cX7_meeting 44 = .ok (.iconst 0, 1) := by decide +kernel
theorem dX7_meeting_45 : decode cX7_meeting 45 = .ok (.iaload, 1) := by decide +kernel
theorem dX7_meeting_46 : decode cX7_meeting 46 = .ok (.if_icmp .ge 43, 3) := by decide +kernel
theorem dX7_meeting_49 : decode cX7_meeting 49 = .ok (.iload_n 3, 1) := by decide +kernel
theorem dX7_meeting_50 : decode cX7_meeting 50 = .ok (.ifCond .eq 39, 3) := by decide +kernel
theorem dX7_meeting_53 : decode cX7_meeting 53 = .ok (.iload 5, 2) := by decide +kernel
theorem dX7_meeting_55 : decode cX7_meeting 55 = .ok (.ifCond .eq 25, 3) := by decide +kernel
theorem dX7_meeting_58 : decode cX7_meeting 58 = .ok (.aload_n 0, 1) := by decide +kernel
theorem dX7_meeting_59 : decode cX7_meeting 59 = .ok (.iload 6, 2) := by decide +kernel
theorem dX7_meeting_61 : decode cX7_meeting 61 = .ok (.iload 4, 2) := by decide +kernel
theorem dX7_meeting_63 : decode cX7_meeting 63 = .ok (.invokevirtual 128, 3) := by decide +kernel
theorem dX7_meeting_66 : decode cX7_meeting 66 = .ok (.aload_n 0, 1) := by decide +kernel
theorem dX7_meeting_67 : decode cX7_meeting 67 = .ok (.iload_n 1, 1) := by decide +kernel
theorem dX7_meeting_68 : decode cX7_meeting 68 = .ok (.iload 4, 2) := by decide +kernel
theorem dX7_meeting_70 : decode cX7_meeting 70 = .ok (.invokevirtual 128, 3) := by decide +kernel
theorem dX7_meeting_73 : decode cX7_meeting 73 = .ok (.if_icmp .ne 7, 3) := by decide +kernel
theorem dX7_meeting_76 : decode cX7_meeting 76 = .ok (.iconst 1, 1) := by decide +kernel
theorem dX7_meeting_77 : decode cX7_meeting 77 = .ok (.goto 4, 3) := by decide +kernel
theorem dX7_meeting_80 : decode cX7_meeting 80 = .ok (.iconst 0, 1) := by decide +kernel
theorem dX7_meeting_81 : decode cX7_meeting 81 = .ok (.istore 5, 2) := by decide +kernel
theorem dX7_meeting_83 : decode cX7_meeting 83 = .ok (.iinc 6 1, 3) := by decide +kernel
theorem dX7_meeting_86 : decode cX7_meeting 86 = .ok (.goto (-48), 3) := by decide +kernel
theorem dX7_meeting_89 : decode cX7_meeting 89 = .ok (.iload 5, 2) := by decide +kernel
theorem dX7_meeting_91 : decode cX7_meeting 91 = .ok (.ifCond .eq 6, 3) := by decide +kernel
theorem dX7_meeting_94 : decode cX7_meeting 94 = .ok (.iload 4, 2) := by decide +kernel
theorem dX7_meeting_96 : decode cX7_meeting 96 = .ok (.ireturn, 1) := by decide +kernel
theorem dX7_meeting_97 : decode cX7_meeting 97 = .ok (.iinc 4 (-1), 3) := by decide +kernel
theorem dX7_meeting_100 : decode cX7_meeting 100 = .ok (.goto (-94), 3) := by decide +kernel
theorem dX7_meeting_103 : decode cX7_meeting 103 = .ok (.ldc 50, 2) := by decide +kernel
theorem dX7_meeting_105 : decode cX7_meeting 105 = .ok (.ireturn, 1) := by decide +kernel
set_option maxRecDepth 20000 in
theorem ggX7_common_X7_isParticle : GoodIn wsX7_common wsX7_isParticle := goodIn_r _ [6, 7, 21, 22, 23, 24, 25, 26, 27, 28, 29, 30, 31, 32, 33, 34, 35, 36, 37, 38] (by decide +kernel) (by decide +kernel)
set_option maxRecDepth 20000 in
theorem gX7_common_X7_isParticle : GoodIn wsX7_common (wsV RX7 92 RX7 yX7_isParticle wsX7_isParticle) := goodIn_app (goodIn_of _ (by decide +kernel)) ggX7_common_X7_isParticle
set_option maxRecDepth 20000 in
theorem ggX7_common_X7_meeting : GoodIn wsX7_common wsX7_meeting := goodIn_r _ [11, 7, 12, 13, 14, 15, 5, 16, 17, 18, 19, 20, 21, 22, 23, 24, 25, 26, 27, 28, 29, 30, 31, 32, 33, 34, 35, 36, 37, 38] (by decide +kernel) (by decide +kernel)
set_option maxRecDepth 20000 in
theorem gX7_common_X7_meeting : GoodIn wsX7_common (wsV RX7 137 RX7 yX7_meeting wsX7_meeting) := goodIn_app (goodIn_of _ (by decide +kernel)) ggX7_common_X7_meeting
theorem dX7_common_0 : decode cX7_common 0 = .ok (.aload_n 0, 1) := by decide +kernel
theorem dX7_common_1 : decode cX7_common 1 = .ok (.iload_n 1, 1) := by decide +kernel
theorem dX7_common_2 : decode cX7_common 2 = .ok (.invokevirtual 92, 3) := by decide +kernel
theorem dX7_common_5 : decode cX7_common 5 = .ok (.ifCond .eq 21, 3) := by decide +kernel
theorem dX7_common_8 : decode cX7_common 8 = .ok (.aload_n 0, 1) := by decide +kernel
theorem dX7_common_9 : decode cX7_common 9 = .ok (.iload_n 2, 1) := by decide +kernel
theorem dX7_common_10 : decode cX7_common 10 = .ok (.invokevirtual 92, 3) := by decide +kernel
theorem dX7_common_13 : decode cX7_common 13 = .ok (.ifCond .eq 13, 3) := by decide +kernel
theorem dX7_common_16 : decode cX7_common 16 = .ok (.aload_n 0, 1) := by decide +kernel
theorem dX7_common_17 : decode cX7_common 17 = .ok (.iload_n 1, 1) := by decide +kernel
theorem dX7_common_18 : decode cX7_common 18 = .ok (.iload_n 2, 1) := by decide +kernel
theorem dX7_common_19 : decode cX7_common 19 = .ok (.iconst 0, 1) := by decide +kernel
theorem dX7_common_20 : decode cX7_common 20 = .ok (.invokevirtual 137, 3) := by decide +kernel
theorem dX7_common_23 : decode cX7_common 23 = .ok (.goto 5, 3) := by decide +kernel
theorem dX7_common_26 : decode cX7_common 26 = .ok (.ldc 88, 2) := by decide +kernel
theorem dX7_common_28 : decode cX7_common 28 = .ok (.ireturn, 1) := by decide +kernel
set_option maxRecDepth 20000 in
theorem ggX7_root_X7_meeting : GoodIn wsX7_root wsX7_meeting := goodIn_r _ [5, 6, 7, 8, 9, 10, 4, 11, 12, 13, 14, 15, 16, 17, 18, 19, 20, 21, 22, 23, 24, 25, 26, 27, 28, 29, 30, 31, 32, 33] (by decide +kernel) (by decide +kernel)
set_option maxRecDepth 20000 in
theorem gX7_root_X7_meeting : GoodIn wsX7_root (wsV RX7 137 RX7 yX7_meeting wsX7_meeting) := goodIn_app (goodIn_of _ (by decide +kernel)) ggX7_root_X7_meeting
theorem dX7_root_0 : decode cX7_root 0 = .ok (.aload_n 0, 1) := by decide +kernel
theorem dX7_root_1 : decode cX7_root 1 = .ok (.iconst 0, 1) := by decide +kernel
theorem dX7_root_2 : decode cX7_root 2 = .ok (.iconst 0, 1) := by decide +kernel
theorem dX7_root_3 : decode cX7_root 3 = .ok (.iconst 1, 1) := by decide +kernel
theorem dX7_root_4 : decode cX7_root 4 = .ok (.invokevirtual 137, 3) := by decide +kernel
theorem dX7_root_7 : decode cX7_root 7 = .ok (.ireturn, 1) := by decide +kernel
set_option maxRecDepth 20000 in
theorem ggX7_mean_X7_isGeneration : GoodIn wsX7_mean wsX7_isGeneration := goodIn_r _ [7, 2, 30, 31, 32, 33, 34, 35, 36, 37, 38, 39, 40, 41, 42, 43, 44, 45, 46, 47] (by decide +kernel) (by decide +kernel)
set_option maxRecDepth 20000 in
theorem gX7_mean_X7_isGeneration : GoodIn wsX7_mean (wsV RX7 131 RX7 yX7_isGeneration wsX7_isGeneration) := goodIn_app (goodIn_of _ (by decide +kernel)) ggX7_mean_X7_isGeneration
set_option maxRecDepth 20000 in
theorem ggX7_mean_X7_in : GoodIn wsX7_mean wsX7_in := goodIn_r _ [10] (by decide +kernel) (by decide +kernel)
set_option maxRecDepth 20000 in
theorem gX7_mean_X7_in : GoodIn wsX7_mean (va_wsS RX7 84 yX7_in wsX7_in) := goodIn_app (goodIn_of _ (by decide +kernel)) ggX7_mean_X7_in
set_option maxRecDepth 20000 in
theorem ggX7_mean_X7_up : GoodIn wsX7_mean wsX7_up := goodIn_r _ [14, 2, 15, 16, 17, 6, 18, 30, 31, 32, 33, 34, 35, 36, 37, 38, 39, 40, 41, 42, 43, 44, 45, 46, 47] (by decide +kernel) (by decide +kernel)
set_option maxRecDepth 20000 in
theorem gX7_mean_X7_up : GoodIn wsX7_mean (wsV RX7 128 RX7 yX7_up wsX7_up) := goodIn_app (goodIn_of _ (by decide +kernel)) ggX7_mean_X7_up
set_option maxRecDepth 20000 in
theorem ggX7_mean_X7_placeIn : GoodIn wsX7_mean wsX7_placeIn := goodIn_r _ [22, 2, 30, 31, 32, 33, 34, 35, 36, 37, 38, 39, 40, 41, 42, 43, 44, 45, 46, 47] (by decide +kernel) (by decide +kernel)
set_option maxRecDepth 20000 in
theorem gX7_mean_X7_placeIn : GoodIn wsX7_mean (wsV RX7 81 RX7 yX7_placeIn wsX7_placeIn) := goodIn_app (goodIn_of _ (by decide +kernel)) ggX7_mean_X7_placeIn
set_option maxRecDepth 20000 in
theorem ggX7_mean_X7_sum : GoodIn wsX7_mean wsX7_sum := goodIn_r _ [26, 2, 30, 31, 32, 33, 34, 35, 36, 37, 38, 39, 40, 41, 42, 43, 44, 45, 46, 47] (by decide +kernel) (by decide +kernel)
set_option maxRecDepth 20000 in
theorem gX7_mean_X7_sum : GoodIn wsX7_mean (wsV RX7 52 RX7 yX7_sum wsX7_sum) := goodIn_app (goodIn_of _ (by decide +kernel)) ggX7_mean_X7_sum
set_option maxRecDepth 20000 in
theorem ggX7_mean_X7_part : GoodIn wsX7_mean wsX7_part := goodIn_r _ [29] (by decide +kernel) (by decide +kernel)
set_option maxRecDepth 20000 in
theorem gX7_mean_X7_part : GoodIn wsX7_mean (va_wsS RX7 121 yX7_part wsX7_part) := goodIn_app (goodIn_of _ (by decide +kernel)) ggX7_mean_X7_part
theorem dX7_mean_0 : decode cX7_mean 0 = .ok (.aload_n 0, 1) := by decide +kernel
theorem dX7_mean_1 : decode cX7_mean 1 = .ok (.iload_n 1, 1) := by decide +kernel
theorem dX7_mean_2 : decode cX7_mean 2 = .ok (.invokevirtual 131, 3) := by decide +kernel
theorem dX7_mean_5 : decode cX7_mean 5 = .ok (.ifCond .eq 12, 3) := by decide +kernel
theorem dX7_mean_8 : decode cX7_mean 8 = .ok (.iload_n 2, 1) := by decide +kernel
theorem dX7_mean_9 : decode cX7_mean 9 = .ok (.iconst 0, 1) := by decide +kernel
theorem dX7_mean_10 : decode cX7_mean 10 = .ok (.iconst 1, 1) := by decide +kernel
theorem dX7_mean_11 : decode cX7_mean 11 = .ok (.invokestatic 84, 3) := by decide +kernel
theorem dX7_mean_14 : decode cX7_mean 14 = .ok (.ifCond .ne 6, 3) := by decide +kernel
theorem dX7_mean_17 : decode cX7_mean 17 = .ok (.ldc 88, 2) := by decide +kernel
theorem dX7_mean_19 : decode cX7_mean 19 = .ok (.ireturn, 1) := by decide +kernel
theorem dX7_mean_20 : decode cX7_mean 20 = .ok (.lconst 0, 1) := by decide +kernel
theorem dX7_mean_21 : decode cX7_mean 21 = .ok (.lstore_n 3, 1) := by decide +kernel
theorem dX7_mean_22 : decode cX7_mean 22 = .ok (.iconst 0, 1) := by decide +kernel
theorem dX7_mean_23 : decode cX7_mean 23 = .ok (.istore 5, 2) := by decide +kernel
theorem dX7_mean_25 : decode cX7_mean 25 = .ok (.iload 5, 2) := by decide +kernel
theorem dX7_mean_27 : decode cX7_mean 27 = .ok (.aload_n 0, 1) := by decide +kernel
theorem dX7_mean_28 : decode cX7_mean 28 = .ok (.getfield 7, 3) := by decide +kernel
theorem dX7_mean_31 : decode cX7_mean 31 = .ok (.iconst 0, 1) := by decide +kernel
theorem dX7_mean_32 : decode cX7_mean 32 = .ok (.iaload, 1) := by decide +kernel
theorem dX7_mean_33 : decode cX7_mean 33 = .ok (.if_icmp .ge 37, 3) := by decide +kernel
theorem dX7_mean_36 : decode cX7_mean 36 = .ok (.lload_n 3, 1) := by decide +kernel
theorem dX7_mean_37 : decode cX7_mean 37 = .ok (.aload_n 0, 1) := by decide +kernel
theorem dX7_mean_38 : decode cX7_mean 38 = .ok (.getfield 7, 3) := by decide +kernel
theorem dX7_mean_41 : decode cX7_mean 41 = .ok (.bipush 8, 2) := by decide +kernel
theorem dX7_mean_43 : decode cX7_mean 43 = .ok (.iload 5, 2) := by decide +kernel
theorem dX7_mean_45 : decode cX7_mean 45 = .ok (.iadd, 1) := by decide +kernel
theorem dX7_mean_46 : decode cX7_mean 46 = .ok (.iaload, 1) := by decide +kernel
theorem dX7_mean_47 : decode cX7_mean 47 = .ok (.i2l, 1) := by decide +kernel
theorem dX7_mean_48 : decode cX7_mean 48 = .ok (.aload_n 0, 1) := by decide +kernel
theorem dX7_mean_49 : decode cX7_mean 49 = .ok (.iload_n 1, 1) := by decide +kernel
theorem dX7_mean_50 : decode cX7_mean 50 = .ok (.aload_n 0, 1) := by decide +kernel
theorem dX7_mean_51 : decode cX7_mean 51 = .ok (.iload 5, 2) := by decide +kernel
theorem dX7_mean_53 : decode cX7_mean 53 = .ok (.iload_n 1, 1) := by decide +kernel
theorem dX7_mean_54 : decode cX7_mean 54 = .ok (.invokevirtual 128, 3) := by decide +kernel
theorem dX7_mean_57 : decode cX7_mean 57 = .ok (.invokevirtual 81, 3) := by decide +kernel
theorem dX7_mean_60 : decode cX7_mean 60 = .ok (.i2l, 1) := by decide +kernel
theorem dX7_mean_61 : decode cX7_mean 61 = .ok (.lmul, 1) := by decide +kernel
theorem dX7_mean_62 : decode cX7_mean 62 = .ok (.ladd, 1) := by decide +kernel
theorem dX7_mean_63 : decode cX7_mean 63 = .ok (.lstore_n 3, 1) := by decide +kernel
theorem dX7_mean_64 : decode cX7_mean 64 = .ok (.iinc 5 1, 3) := by decide +kernel
theorem dX7_mean_67 : decode cX7_mean 67 = .ok (.goto (-42), 3) := by decide +kernel
theorem dX7_mean_70 : decode cX7_mean 70 = .ok (.lload_n 3, 1) := by decide +kernel
theorem dX7_mean_71 : decode cX7_mean 71 = .ok (.aload_n 0, 1) := by decide +kernel
theorem dX7_mean_72 : decode cX7_mean 72 = .ok (.invokevirtual 52, 3) := by decide +kernel
theorem dX7_mean_75 : decode cX7_mean 75 = .ok (.i2l, 1) := by decide +kernel
theorem dX7_mean_76 : decode cX7_mean 76 = .ok (.iload_n 2, 1) := by decide +kernel
theorem dX7_mean_77 : decode cX7_mean 77 = .ok (.invokestatic 121, 3) := by decide +kernel
theorem dX7_mean_80 : decode cX7_mean 80 = .ok (.ireturn, 1) := by decide +kernel
set_option maxRecDepth 20000 in
theorem ggX7_share_X7_isGeneration : GoodIn wsX7_share wsX7_isGeneration := goodIn_r _ [7, 2, 30, 31, 32, 33, 34, 35, 36, 37, 38, 39, 40, 41, 42, 43, 44, 45, 46, 47] (by decide +kernel) (by decide +kernel)
set_option maxRecDepth 20000 in
theorem gX7_share_X7_isGeneration : GoodIn wsX7_share (wsV RX7 131 RX7 yX7_isGeneration wsX7_isGeneration) := goodIn_app (goodIn_of _ (by decide +kernel)) ggX7_share_X7_isGeneration
set_option maxRecDepth 20000 in
theorem ggX7_share_X7_in : GoodIn wsX7_share wsX7_in := goodIn_r _ [10] (by decide +kernel) (by decide +kernel)
set_option maxRecDepth 20000 in
theorem gX7_share_X7_in : GoodIn wsX7_share (va_wsS RX7 84 yX7_in wsX7_in) := goodIn_app (goodIn_of _ (by decide +kernel)) ggX7_share_X7_in
set_option maxRecDepth 20000 in
theorem ggX7_share_X7_up : GoodIn wsX7_share wsX7_up := goodIn_r _ [14, 2, 15, 16, 17, 6, 18, 30, 31, 32, 33, 34, 35, 36, 37, 38, 39, 40, 41, 42, 43, 44, 45, 46, 47] (by decide +kernel) (by decide +kernel)
set_option maxRecDepth 20000 in
theorem gX7_share_X7_up : GoodIn wsX7_share (wsV RX7 128 RX7 yX7_up wsX7_up) := goodIn_app (goodIn_of _ (by decide +kernel)) ggX7_share_X7_up
set_option maxRecDepth 20000 in
theorem ggX7_share_X7_placeIn : GoodIn wsX7_share wsX7_placeIn := goodIn_r _ [22, 2, 30, 31, 32, 33, 34, 35, 36, 37, 38, 39, 40, 41, 42, 43, 44, 45, 46, 47] (by decide +kernel) (by decide +kernel)
set_option maxRecDepth 20000 in
theorem gX7_share_X7_placeIn : GoodIn wsX7_share (wsV RX7 81 RX7 yX7_placeIn wsX7_placeIn) := goodIn_app (goodIn_of _ (by decide +kernel)) ggX7_share_X7_placeIn
set_option maxRecDepth 20000 in
theorem ggX7_share_X7_sum : GoodIn wsX7_share wsX7_sum := goodIn_r _ [26, 2, 30, 31, 32, 33, 34, 35, 36, 37, 38, 39, 40, 41, 42, 43, 44, 45, 46, 47] (by decide +kernel) (by decide +kernel)
set_option maxRecDepth 20000 in
theorem gX7_share_X7_sum : GoodIn wsX7_share (wsV RX7 52 RX7 yX7_sum wsX7_sum) := goodIn_app (goodIn_of _ (by decide +kernel)) ggX7_share_X7_sum
set_option maxRecDepth 20000 in
theorem ggX7_share_X7_part : GoodIn wsX7_share wsX7_part := goodIn_r _ [29] (by decide +kernel) (by decide +kernel)
set_option maxRecDepth 20000 in
theorem gX7_share_X7_part : GoodIn wsX7_share (va_wsS RX7 121 yX7_part wsX7_part) := goodIn_app (goodIn_of _ (by decide +kernel)) ggX7_share_X7_part
theorem dX7_share_0 : decode cX7_share 0 = .ok (.aload_n 0, 1) := by decide +kernel
theorem dX7_share_1 : decode cX7_share 1 = .ok (.iload_n 1, 1) := by decide +kernel
theorem dX7_share_2 : decode cX7_share 2 = .ok (.invokevirtual 131, 3) := by decide +kernel
theorem dX7_share_5 : decode cX7_share 5 = .ok (.ifCond .eq 33, 3) := by decide +kernel
theorem dX7_share_8 : decode cX7_share 8 = .ok (.iload_n 2, 1) := by decide +kernel
theorem dX7_share_9 : decode cX7_share 9 = .ok (.iconst 0, 1) := by decide +kernel
theorem dX7_share_10 : decode cX7_share 10 = .ok (.bipush 99, 2) := by decide +kernel
theorem dX7_share_12 : decode cX7_share 12 = .ok (.invokestatic 84, 3) := by decide +kernel
theorem dX7_share_15 : decode cX7_share 15 = .ok (.ifCond .eq 23, 3) := by decide +kernel
theorem dX7_share_18 : decode cX7_share 18 = .ok (.iload_n 3, 1) := by decide +kernel
theorem dX7_share_19 : decode cX7_share 19 = .ok (.iconst 0, 1) := by decide +kernel
theorem dX7_share_20 : decode cX7_share 20 = .ok (.bipush 99, 2) := by decide +kernel
theorem dX7_share_22 : decode cX7_share 22 = .ok (.invokestatic 84, 3) := by decide +kernel
theorem dX7_share_25 : decode cX7_share 25 = .ok (.ifCond .eq 13, 3) := by decide +kernel
theorem dX7_share_28 : decode cX7_share 28 = .ok (.iload 4, 2) := by decide +kernel
theorem dX7_share_30 : decode cX7_share 30 = .ok (.iconst 0, 1) := by decide +kernel
theorem dX7_share_31 : decode cX7_share 31 = .ok (.iconst 1, 1) := by decide +kernel
theorem dX7_share_32 : decode cX7_share 32 = .ok (.invokestatic 84, 3) := by decide +kernel
theorem dX7_share_35 : decode cX7_share 35 = .ok (.ifCond .ne 6, 3) := by decide +kernel
theorem dX7_share_38 : decode cX7_share 38 = .ok (.ldc 88, 2) := by decide +kernel
theorem dX7_share_40 : decode cX7_share 40 = .ok (.ireturn, 1) := by decide +kernel
theorem dX7_share_41 : decode cX7_share 41 = .ok (.lconst 0, 1) := by decide +kernel
theorem dX7_share_42 : decode cX7_share 42 = .ok (.lstore 5, 2) := by decide +kernel
theorem dX7_share_44 : decode cX7_share 44 = .ok (.iconst 0, 1) := by decide +kernel
theorem dX7_share_45 : decode cX7_share 45 = .ok (.istore 7, 2) := by decide +kernel
theorem dX7_share_47 : decode cX7_share 47 = .ok (.iload 7, 2) := by decide +kernel
theorem dX7_share_49 : decode cX7_share 49 = .ok (.aload_n 0, 1) := by decide +kernel
theorem dX7_share_50 : decode cX7_share 50 = .ok (.getfield 7, 3) := by decide +kernel
theorem dX7_share_53 : decode cX7_share 53 = .ok (.iconst 0, 1) := by decide +kernel
theorem dX7_share_54 : decode cX7_share 54 = .ok (.iaload, 1) := by decide +kernel
theorem dX7_share_55 : decode cX7_share 55 = .ok (.if_icmp .ge 49, 3) := by decide +kernel
theorem dX7_share_58 : decode cX7_share 58 = .ok (.lload 5, 2) := by decide +kernel
theorem dX7_share_60 : decode cX7_share 60 = .ok (.aload_n 0, 1) := by decide +kernel
theorem dX7_share_61 : decode cX7_share 61 = .ok (.iload_n 1, 1) := by decide +kernel
theorem dX7_share_62 : decode cX7_share 62 = .ok (.aload_n 0, 1) := by decide +kernel
theorem dX7_share_63 : decode cX7_share 63 = .ok (.iload 7, 2) := by decide +kernel
theorem dX7_share_65 : decode cX7_share 65 = .ok (.iload_n 1, 1) := by decide +kernel
theorem dX7_share_66 : decode cX7_share 66 = .ok (.invokevirtual 128, 3) := by decide +kernel
theorem dX7_share_69 : decode cX7_share 69 = .ok (.invokevirtual 81, 3) := by decide +kernel
theorem dX7_share_72 : decode cX7_share 72 = .ok (.iload_n 2, 1) := by decide +kernel
theorem dX7_share_73 : decode cX7_share 73 = .ok (.iload_n 3, 1) := by decide +kernel
theorem dX7_share_74 : decode cX7_share 74 = .ok (.invokestatic 84, 3) := by decide +kernel
theorem dX7_share_77 : decode cX7_share 77 = .ok (.ifCond .eq 17, 3) := by decide +kernel
theorem dX7_share_80 : decode cX7_share 80 = .ok (.aload_n 0, 1) := by decide +kernel
theorem dX7_share_81 : decode cX7_share 81 = .ok (.getfield 7, 3) := by decide +kernel
theorem dX7_share_84 : decode cX7_share 84 = .ok (.bipush 8, 2) := by decide +kernel
theorem dX7_share_86 : decode cX7_share 86 = .ok (.iload 7, 2) := by decide +kernel
theorem dX7_share_88 : decode cX7_share 88 = .ok (.iadd, 1) := by decide +kernel
theorem dX7_share_89 : decode cX7_share 89 = .ok (.iaload, 1) := by decide +kernel
theorem dX7_share_90 : decode cX7_share 90 = .ok (.i2l, 1) := by decide +kernel
theorem dX7_share_91 : decode cX7_share 91 = .ok (.goto 4, 3) := by decide +kernel
theorem dX7_share_94 : decode cX7_share 94 = .ok (.lconst 0, 1) := by decide +kernel
theorem dX7_share_95 : decode cX7_share 95 = .ok (.ladd, 1) := by decide +kernel
theorem dX7_share_96 : decode cX7_share 96 = .ok (.lstore 5, 2) := by decide +kernel
theorem dX7_share_98 : decode cX7_share 98 = .ok (.iinc 7 1, 3) := by decide +kernel
theorem dX7_share_101 : decode cX7_share 101 = .ok (.goto (-54), 3) := by decide +kernel
theorem dX7_share_104 : decode cX7_share 104 = .ok (.lload 5, 2) := by decide +kernel
theorem dX7_share_106 : decode cX7_share 106 = .ok (.aload_n 0, 1) := by decide +kernel
theorem dX7_share_107 : decode cX7_share 107 = .ok (.invokevirtual 52, 3) := by decide +kernel
theorem dX7_share_110 : decode cX7_share 110 = .ok (.i2l, 1) := by decide +kernel
theorem dX7_share_111 : decode cX7_share 111 = .ok (.iload 4, 2) := by decide +kernel
theorem dX7_share_113 : decode cX7_share 113 = .ok (.invokestatic 121, 3) := by decide +kernel
theorem dX7_share_116 : decode cX7_share 116 = .ok (.ireturn, 1) := by decide +kernel
set_option maxRecDepth 20000 in
theorem ggX7_would_X7_in : GoodIn wsX7_would wsX7_in := goodIn_r _ [7] (by decide +kernel) (by decide +kernel)
set_option maxRecDepth 20000 in
theorem gX7_would_X7_in : GoodIn wsX7_would (va_wsS RX7 84 yX7_in wsX7_in) := goodIn_app (goodIn_of _ (by decide +kernel)) ggX7_would_X7_in
set_option maxRecDepth 20000 in
theorem ggX7_would_X7_isParticle : GoodIn wsX7_would wsX7_isParticle := goodIn_r _ [11, 2, 37, 38, 39, 40, 41, 42, 43, 44, 45, 46, 47, 48, 49, 50, 51, 52, 53, 54] (by decide +kernel) (by decide +kernel)
set_option maxRecDepth 20000 in
theorem gX7_would_X7_isParticle : GoodIn wsX7_would (wsV RX7 92 RX7 yX7_isParticle wsX7_isParticle) := goodIn_app (goodIn_of _ (by decide +kernel)) ggX7_would_X7_isParticle
set_option maxRecDepth 20000 in
theorem ggX7_would_X7_chooses : GoodIn wsX7_would wsX7_chooses := goodIn_r _ [15, 16, 17, 18, 6, 19, 2, 20, 21, 22, 3, 23, 24, 25, 26, 27, 28, 29, 30, 31, 32, 33, 34, 35, 36, 37, 38, 39, 40, 41, 42, 43, 44, 45, 46, 47, 48, 49, 50, 51, 52, 53, 54] (by decide +kernel) (by decide +kernel)
set_option maxRecDepth 20000 in
theorem gX7_would_X7_chooses : GoodIn wsX7_would (wsV RX7 74 RX7 yX7_chooses wsX7_chooses) := goodIn_app (goodIn_of _ (by decide +kernel)) ggX7_would_X7_chooses
theorem dX7_would_0 : decode cX7_would 0 = .ok (.iload_n 1, 1) := by decide +kernel
theorem dX7_would_1 : decode cX7_would 1 = .ok (.iconst 0, 1) := by decide +kernel
theorem dX7_would_2 : decode cX7_would 2 = .ok (.iconst 2, 1) := by decide +kernel
theorem dX7_would_3 : decode cX7_would 3 = .ok (.invokestatic 84, 3) := by decide +kernel
theorem dX7_would_6 : decode cX7_would 6 = .ok (.ifCond .eq 11, 3) := by decide +kernel
theorem dX7_would_9 : decode cX7_would 9 = .ok (.aload_n 0, 1) := by decide +kernel
theorem dX7_would_10 : decode cX7_would 10 = .ok (.iload_n 2, 1) := by decide +kernel
theorem dX7_would_11 : decode cX7_would 11 = .ok (.invokevirtual 92, 3) := by decide +kernel
theorem dX7_would_14 : decode cX7_would 14 = .ok (.ifCond .ne 6, 3) := by decide +kernel
theorem dX7_would_17 : decode cX7_would 17 = .ok (.ldc 88, 2) := by decide +kernel
theorem dX7_would_19 : decode cX7_would 19 = .ok (.ireturn, 1) := by decide +kernel
theorem dX7_would_20 : decode cX7_would 20 = .ok (.aload_n 0, 1) := by decide +kernel
theorem dX7_would_21 : decode cX7_would 21 = .ok (.getfield 7, 3) := by decide +kernel
theorem dX7_would_24 : decode cX7_would 24 = .ok (.iconst 2, 1) := by decide +kernel
theorem dX7_would_25 : decode cX7_would 25 = .ok (.iaload, 1) := by decide +kernel
theorem dX7_would_26 : decode cX7_would 26 = .ok (.istore_n 3, 1) := by decide +kernel
theorem dX7_would_27 : decode cX7_would 27 = .ok (.aload_n 0, 1) := by decide +kernel
theorem dX7_would_28 : decode cX7_would 28 = .ok (.iload_n 1, 1) := by decide +kernel
theorem dX7_would_29 : decode cX7_would 29 = .ok (.invokevirtual 74, 3) := by decide +kernel
theorem dX7_would_32 : decode cX7_would 32 = .ok (.aload_n 0, 1) := by decide +kernel
theorem dX7_would_33 : decode cX7_would 33 = .ok (.getfield 7, 3) := by decide +kernel
theorem dX7_would_36 : decode cX7_would 36 = .ok (.iconst 2, 1) := by decide +kernel
theorem dX7_would_37 : decode cX7_would 37 = .ok (.iload_n 3, 1) := by decide +kernel
theorem dX7_would_38 : decode cX7_would 38 = .ok (.iastore, 1) := by decide +kernel
theorem dX7_would_39 : decode cX7_would 39 = .ok (.aload_n 0, 1) := by decide +kernel
theorem dX7_would_40 : decode cX7_would 40 = .ok (.getfield 22, 3) := by decide +kernel
theorem dX7_would_43 : decode cX7_would 43 = .ok (.iload_n 2, 1) := by decide +kernel
theorem dX7_would_44 : decode cX7_would 44 = .ok (.iaload, 1) := by decide +kernel
theorem dX7_would_45 : decode cX7_would 45 = .ok (.ireturn, 1) := by decide +kernel
theorem dX7_zeros_0 : decode cX7_zeros 0 = .ok (.iconst 0, 1) := by decide +kernel
theorem dX7_zeros_1 : decode cX7_zeros 1 = .ok (.istore_n 1, 1) := by decide +kernel
theorem dX7_zeros_2 : decode cX7_zeros 2 = .ok (.iconst 0, 1) := by decide +kernel
theorem dX7_zeros_3 : decode cX7_zeros 3 = .ok (.istore_n 2, 1) := by decide +kernel
theorem dX7_zeros_4 : decode cX7_zeros 4 = .ok (.iload_n 2, 1) := by decide +kernel
theorem dX7_zeros_5 : decode cX7_zeros 5 = .ok (.aload_n 0, 1) := by decide +kernel
theorem dX7_zeros_6 : decode cX7_zeros 6 = .ok (.getfield 7, 3) := by decide +kernel
theorem dX7_zeros_9 : decode cX7_zeros 9 = .ok (.iconst 0, 1) := by decide +kernel
theorem dX7_zeros_10 : decode cX7_zeros 10 = .ok (.iaload, 1) := by decide +kernel
theorem dX7_zeros_11 : decode cX7_zeros 11 = .ok (.if_icmp .ge 29, 3) := by decide +kernel
theorem dX7_zeros_14 : decode cX7_zeros 14 = .ok (.iload_n 1, 1) := by decide +kernel
theorem dX7_zeros_15 : decode cX7_zeros 15 = .ok (.aload_n 0, 1) := by decide +kernel
theorem dX7_zeros_16 : decode cX7_zeros 16 = .ok (.getfield 7, 3) := by decide +kernel
theorem dX7_zeros_19 : decode cX7_zeros 19 = .ok (.bipush 8, 2) := by decide +kernel
theorem dX7_zeros_21 : decode cX7_zeros 21 = .ok (.iload_n 2, 1) := by decide +kernel
theorem dX7_zeros_22 : decode cX7_zeros 22 = .ok (.iadd, 1) := by decide +kernel
theorem dX7_zeros_23 : decode cX7_zeros 23 = .ok (.iaload, 1) := by decide +kernel
theorem dX7_zeros_24 : decode cX7_zeros 24 = .ok (.ifCond .ne 7, 3) := by decide +kernel
theorem dX7_zeros_27 : decode cX7_zeros 27 = .ok (.iconst 1, 1) := by decide +kernel
theorem dX7_zeros_28 : decode cX7_zeros 28 = .ok (.goto 4, 3) := by decide +kernel
theorem dX7_zeros_31 : decode cX7_zeros 31 = .ok (.iconst 0, 1) := by decide +kernel
theorem dX7_zeros_32 : decode cX7_zeros 32 = .ok (.iadd, 1) := by decide +kernel
theorem dX7_zeros_33 : decode cX7_zeros 33 = .ok (.istore_n 1, 1) := by decide +kernel
theorem dX7_zeros_34 : decode cX7_zeros 34 = .ok (.iinc 2 1, 3) := by decide +kernel
theorem dX7_zeros_37 : decode cX7_zeros 37 = .ok (.goto (-33), 3) := by decide +kernel
theorem dX7_zeros_40 : decode cX7_zeros 40 = .ok (.iload_n 1, 1) := by decide +kernel
theorem dX7_zeros_41 : decode cX7_zeros 41 = .ok (.ireturn, 1) := by decide +kernel
set_option maxRecDepth 20000 in
theorem ggX7_count_X7_sum : GoodIn wsX7_count wsX7_sum := goodIn_r _ [9, 1, 29, 30, 31, 32, 33, 34, 35, 36, 37, 38, 39, 40, 41, 42, 43, 44, 45, 46] (by decide +kernel) (by decide +kernel)
set_option maxRecDepth 20000 in
theorem gX7_count_X7_sum : GoodIn wsX7_count (wsV RX7 52 RX7 yX7_sum wsX7_sum) := goodIn_app (goodIn_of _ (by decide +kernel)) ggX7_count_X7_sum
set_option maxRecDepth 20000 in
theorem ggX7_count_X7_effective : GoodIn wsX7_count wsX7_effective := goodIn_r _ [13, 1, 5, 6, 7, 8, 9, 29, 30, 31, 32, 33, 34, 35, 36, 37, 38, 39, 40, 41, 42, 43, 44, 45, 46] (by decide +kernel) (by decide +kernel)
set_option maxRecDepth 20000 in
theorem gX7_count_X7_effective : GoodIn wsX7_count (wsV RX7 108 RX7 yX7_effective wsX7_effective) := goodIn_app (goodIn_of _ (by decide +kernel)) ggX7_count_X7_effective
set_option maxRecDepth 20000 in
theorem ggX7_count_X7_zeros : GoodIn wsX7_count wsX7_zeros := goodIn_r _ [17, 1, 29, 30, 31, 32, 33, 34, 35, 36, 37, 38, 39, 40, 41, 42, 43, 44, 45, 46] (by decide +kernel) (by decide +kernel)
set_option maxRecDepth 20000 in
theorem gX7_count_X7_zeros : GoodIn wsX7_count (wsV RX7 141 RX7 yX7_zeros wsX7_zeros) := goodIn_app (goodIn_of _ (by decide +kernel)) ggX7_count_X7_zeros
set_option maxRecDepth 20000 in
theorem ggX7_count_X7_latest : GoodIn wsX7_count wsX7_latest := goodIn_r _ [21, 1, 29, 30, 31, 32, 33, 34, 35, 36, 37, 38, 39, 40, 41, 42, 43, 44, 45, 46] (by decide +kernel) (by decide +kernel)
set_option maxRecDepth 20000 in
theorem gX7_count_X7_latest : GoodIn wsX7_count (wsV RX7 102 RX7 yX7_latest wsX7_latest) := goodIn_app (goodIn_of _ (by decide +kernel)) ggX7_count_X7_latest
set_option maxRecDepth 20000 in
theorem ggX7_count_X7_unlike : GoodIn wsX7_count wsX7_unlike := goodIn_r _ [25, 1, 29, 30, 31, 32, 33, 34, 35, 36, 37, 38, 39, 40, 41, 42, 43, 44, 45, 46] (by decide +kernel) (by decide +kernel)
set_option maxRecDepth 20000 in
theorem gX7_count_X7_unlike : GoodIn wsX7_count (wsV RX7 114 RX7 yX7_unlike wsX7_unlike) := goodIn_app (goodIn_of _ (by decide +kernel)) ggX7_count_X7_unlike
set_option maxRecDepth 20000 in
theorem ggX7_count_X7_in : GoodIn wsX7_count wsX7_in := goodIn_r _ [28] (by decide +kernel) (by decide +kernel)
set_option maxRecDepth 20000 in
theorem gX7_count_X7_in : GoodIn wsX7_count (va_wsS RX7 84 yX7_in wsX7_in) := goodIn_app (goodIn_of _ (by decide +kernel)) ggX7_count_X7_in
theorem dX7_count_0 : decode cX7_count 0 = .ok (.iload_n 1, 1) := by decide +kernel
theorem dX7_count_1 : decode cX7_count 1 = .ok (.tableswitch 124 0 10 #[59, 59, 66, 71, 76, 83, 88, 100, 107, 114, 119], 59) := by decide +kernel
theorem dX7_count_60 : decode cX7_count 60 = .ok (.aload_n 0, 1) := by decide +kernel
theorem dX7_count_61 : decode cX7_count 61 = .ok (.getfield 7, 3) := by decide +kernel
theorem dX7_count_64 : decode cX7_count 64 = .ok (.iload_n 1, 1) := by decide +kernel
theorem dX7_count_65 : decode cX7_count 65 = .ok (.iaload, 1) := by decide +kernel
theorem dX7_count_66 : decode cX7_count 66 = .ok (.ireturn, 1) := by decide +kernel
theorem dX7_count_67 : decode cX7_count 67 = .ok (.aload_n 0, 1) := by decide +kernel
theorem dX7_count_68 : decode cX7_count 68 = .ok (.invokevirtual 52, 3) := by decide +kernel
theorem dX7_count_71 : decode cX7_count 71 = .ok (.ireturn, 1) := by decide +kernel
theorem dX7_count_72 : decode cX7_count 72 = .ok (.aload_n 0, 1) := by decide +kernel
theorem dX7_count_73 : decode cX7_count 73 = .ok (.invokevirtual 108, 3) := by decide +kernel
theorem dX7_count_76 : decode cX7_count 76 = .ok (.ireturn, 1) := by decide +kernel
theorem dX7_count_77 : decode cX7_count 77 = .ok (.aload_n 0, 1) := by decide +kernel
theorem dX7_count_78 : decode cX7_count 78 = .ok (.getfield 7, 3) := by decide +kernel
theorem dX7_count_81 : decode cX7_count 81 = .ok (.iconst 2, 1) := by decide +kernel
theorem dX7_count_82 : decode cX7_count 82 = .ok (.iaload, 1) := by decide +kernel
theorem dX7_count_83 : decode cX7_count 83 = .ok (.ireturn, 1) := by decide +kernel
theorem dX7_count_84 : decode cX7_count 84 = .ok (.aload_n 0, 1) := by decide +kernel
theorem dX7_count_85 : decode cX7_count 85 = .ok (.invokevirtual 141, 3) := by decide +kernel
theorem dX7_count_88 : decode cX7_count 88 = .ok (.ireturn, 1) := by decide +kernel
theorem dX7_count_89 : decode cX7_count 89 = .ok (.aload_n 0, 1) := by decide +kernel
theorem dX7_count_90 : decode cX7_count 90 = .ok (.aload_n 0, 1) := by decide +kernel
theorem dX7_count_91 : decode cX7_count 91 = .ok (.invokevirtual 102, 3) := by decide +kernel
theorem dX7_count_94 : decode cX7_count 94 = .ok (.sipush 340, 3) := by decide +kernel
theorem dX7_count_97 : decode cX7_count 97 = .ok (.invokevirtual 114, 3) := by decide +kernel
theorem dX7_count_100 : decode cX7_count 100 = .ok (.ireturn, 1) := by decide +kernel
theorem dX7_count_101 : decode cX7_count 101 = .ok (.aload_n 0, 1) := by decide +kernel
theorem dX7_count_102 : decode cX7_count 102 = .ok (.getfield 7, 3) := by decide +kernel
theorem dX7_count_105 : decode cX7_count 105 = .ok (.iconst 3, 1) := by decide +kernel
theorem dX7_count_106 : decode cX7_count 106 = .ok (.iaload, 1) := by decide +kernel
theorem dX7_count_107 : decode cX7_count 107 = .ok (.ireturn, 1) := by decide +kernel
theorem dX7_count_108 : decode cX7_count 108 = .ok (.aload_n 0, 1) := by decide +kernel
theorem dX7_count_109 : decode cX7_count 109 = .ok (.getfield 7, 3) := by decide +kernel
theorem dX7_count_112 : decode cX7_count 112 = .ok (.iconst 4, 1) := by decide +kernel
theorem dX7_count_113 : decode cX7_count 113 = .ok (.iaload, 1) := by decide +kernel
theorem dX7_count_114 : decode cX7_count 114 = .ok (.ireturn, 1) := by decide +kernel
theorem dX7_count_115 : decode cX7_count 115 = .ok (.aload_n 0, 1) := by decide +kernel
theorem dX7_count_116 : decode cX7_count 116 = .ok (.getfield 46, 3) := by decide +kernel
theorem dX7_count_119 : decode cX7_count 119 = .ok (.ireturn, 1) := by decide +kernel
theorem dX7_count_120 : decode cX7_count 120 = .ok (.aload_n 0, 1) := by decide +kernel
theorem dX7_count_121 : decode cX7_count 121 = .ok (.getfield 144, 3) := by decide +kernel
theorem dX7_count_124 : decode cX7_count 124 = .ok (.ireturn, 1) := by decide +kernel
theorem dX7_count_125 : decode cX7_count 125 = .ok (.iload_n 1, 1) := by decide +kernel
theorem dX7_count_126 : decode cX7_count 126 = .ok (.bipush 20, 2) := by decide +kernel
theorem dX7_count_128 : decode cX7_count 128 = .ok (.bipush 22, 2) := by decide +kernel
theorem dX7_count_130 : decode cX7_count 130 = .ok (.invokestatic 84, 3) := by decide +kernel
theorem dX7_count_133 : decode cX7_count 133 = .ok (.ifCond .eq 17, 3) := by decide +kernel
theorem dX7_count_136 : decode cX7_count 136 = .ok (.aload_n 0, 1) := by decide +kernel
theorem dX7_count_137 : decode cX7_count 137 = .ok (.getfield 7, 3) := by decide +kernel
theorem dX7_count_140 : decode cX7_count 140 = .ok (.iconst 5, 1) := by decide +kernel
theorem dX7_count_141 : decode cX7_count 141 = .ok (.iload_n 1, 1) := by decide +kernel
theorem dX7_count_142 : decode cX7_count 142 = .ok (.iadd, 1) := by decide +kernel
theorem dX7_count_143 : decode cX7_count 143 = .ok (.bipush 20, 2) := by decide +kernel
theorem dX7_count_145 : decode cX7_count 145 = .ok (.isub, 1) := by decide +kernel
theorem dX7_count_146 : decode cX7_count 146 = .ok (.iaload, 1) := by decide +kernel
theorem dX7_count_147 : decode cX7_count 147 = .ok (.goto 5, 3) := by decide +kernel
theorem dX7_count_150 : decode cX7_count 150 = .ok (.ldc 88, 2) := by decide +kernel
theorem dX7_count_152 : decode cX7_count 152 = .ok (.ireturn, 1) := by decide +kernel
theorem dX7_undo_0 : decode cX7_undo 0 = .ok (.aload_n 0, 1) := by decide +kernel
theorem dX7_undo_1 : decode cX7_undo 1 = .ok (.getfield 46, 3) := by decide +kernel
theorem dX7_undo_4 : decode cX7_undo 4 = .ok (.ifCond .ne 6, 3) := by decide +kernel
theorem dX7_undo_7 : decode cX7_undo 7 = .ok (.ldc 97, 2) := by decide +kernel
theorem dX7_undo_9 : decode cX7_undo 9 = .ok (.ireturn, 1) := by decide +kernel
theorem dX7_undo_10 : decode cX7_undo 10 = .ok (.aload_n 0, 1) := by decide +kernel
theorem dX7_undo_11 : decode cX7_undo 11 = .ok (.dup, 1) := by decide +kernel
theorem dX7_undo_12 : decode cX7_undo 12 = .ok (.getfield 46, 3) := by decide +kernel
theorem dX7_undo_15 : decode cX7_undo 15 = .ok (.iconst 1, 1) := by decide +kernel
theorem dX7_undo_16 : decode cX7_undo 16 = .ok (.isub, 1) := by decide +kernel
theorem dX7_undo_17 : decode cX7_undo 17 = .ok (.putfield 46, 3) := by decide +kernel
theorem dX7_undo_20 : decode cX7_undo 20 = .ok (.iconst 0, 1) := by decide +kernel
theorem dX7_undo_21 : decode cX7_undo 21 = .ok (.istore_n 1, 1) := by decide +kernel
theorem dX7_undo_22 : decode cX7_undo 22 = .ok (.iload_n 1, 1) := by decide +kernel
theorem dX7_undo_23 : decode cX7_undo 23 = .ok (.sipush 580, 3) := by decide +kernel
theorem dX7_undo_26 : decode cX7_undo 26 = .ok (.if_icmp .ge 30, 3) := by decide +kernel
theorem dX7_undo_29 : decode cX7_undo 29 = .ok (.aload_n 0, 1) := by decide +kernel
theorem dX7_undo_30 : decode cX7_undo 30 = .ok (.getfield 7, 3) := by decide +kernel
theorem dX7_undo_33 : decode cX7_undo 33 = .ok (.iload_n 1, 1) := by decide +kernel
theorem dX7_undo_34 : decode cX7_undo 34 = .ok (.aload_n 0, 1) := by decide +kernel
theorem dX7_undo_35 : decode cX7_undo 35 = .ok (.getfield 13, 3) := by decide +kernel
theorem dX7_undo_38 : decode cX7_undo 38 = .ok (.sipush 580, 3) := by decide +kernel
theorem dX7_undo_41 : decode cX7_undo 41 = .ok (.aload_n 0, 1) := by decide +kernel
theorem dX7_undo_42 : decode cX7_undo 42 = .ok (.getfield 46, 3) := by decide +kernel
theorem dX7_undo_45 : decode cX7_undo 45 = .ok (.imul, 1) := by decide +kernel
theorem dX7_undo_46 : decode cX7_undo 46 = .ok (.iload_n 1, 1) := by decide +kernel
theorem dX7_undo_47 : decode cX7_undo 47 = .ok (.iadd, 1) := by decide +kernel
theorem dX7_undo_48 : decode cX7_undo 48 = .ok (.iaload, 1) := by decide +kernel
theorem dX7_undo_49 : decode cX7_undo 49 = .ok (.iastore, 1) := by decide +kernel
theorem dX7_undo_50 : decode cX7_undo 50 = .ok (.iinc 1 1, 3) := by decide +kernel
theorem dX7_undo_53 : decode cX7_undo 53 = .ok (.goto (-31), 3) := by decide +kernel
theorem dX7_undo_56 : decode cX7_undo 56 = .ok (.aload_n 0, 1) := by decide +kernel
theorem dX7_undo_57 : decode cX7_undo 57 = .ok (.getfield 46, 3) := by decide +kernel
theorem dX7_undo_60 : decode cX7_undo 60 = .ok (.ireturn, 1) := by decide +kernel
set_option maxRecDepth 20000 in
theorem ggX7_type_X7_in : GoodIn wsX7_type wsX7_in := goodIn_r _ [8] (by decide +kernel) (by decide +kernel)
set_option maxRecDepth 20000 in
theorem gX7_type_X7_in : GoodIn wsX7_type (va_wsS RX7 84 yX7_in wsX7_in) := goodIn_app (goodIn_of _ (by decide +kernel)) ggX7_type_X7_in
theorem dX7_type_0 : decode cX7_type 0 = .ok (.iload_n 1, 1) := by decide +kernel
theorem dX7_type_1 : decode cX7_type 1 = .ok (.bipush 32, 2) := by decide +kernel
theorem dX7_type_3 : decode cX7_type 3 = .ok (.bipush 126, 2) := by decide +kernel
theorem dX7_type_5 : decode cX7_type 5 = .ok (.invokestatic 84, 3) := by decide +kernel
theorem dX7_type_8 : decode cX7_type 8 = .ok (.ifCond .ne 6, 3) := by decide +kernel
theorem dX7_type_11 : decode cX7_type 11 = .ok (.ldc 88, 2) := by decide +kernel
theorem dX7_type_13 : decode cX7_type 13 = .ok (.ireturn, 1) := by decide +kernel
theorem dX7_type_14 : decode cX7_type 14 = .ok (.aload_n 0, 1) := by decide +kernel
theorem dX7_type_15 : decode cX7_type 15 = .ok (.getfield 144, 3) := by decide +kernel
theorem dX7_type_18 : decode cX7_type 18 = .ok (.bipush 60, 2) := by decide +kernel
theorem dX7_type_20 : decode cX7_type 20 = .ok (.if_icmp .ne 6, 3) := by decide +kernel
theorem dX7_type_23 : decode cX7_type 23 = .ok (.ldc 101, 2) := by decide +kernel
theorem dX7_type_25 : decode cX7_type 25 = .ok (.ireturn, 1) := by decide +kernel
theorem dX7_type_26 : decode cX7_type 26 = .ok (.aload_n 0, 1) := by decide +kernel
theorem dX7_type_27 : decode cX7_type 27 = .ok (.getfield 19, 3) := by decide +kernel
theorem dX7_type_30 : decode cX7_type 30 = .ok (.aload_n 0, 1) := by decide +kernel
theorem dX7_type_31 : decode cX7_type 31 = .ok (.getfield 144, 3) := by decide +kernel
theorem dX7_type_34 : decode cX7_type 34 = .ok (.iload_n 1, 1) := by decide +kernel
theorem dX7_type_35 : decode cX7_type 35 = .ok (.iastore, 1) := by decide +kernel
theorem dX7_type_36 : decode cX7_type 36 = .ok (.aload_n 0, 1) := by decide +kernel
theorem dX7_type_37 : decode cX7_type 37 = .ok (.dup, 1) := by decide +kernel
theorem dX7_type_38 : decode cX7_type 38 = .ok (.getfield 144, 3) := by decide +kernel
theorem dX7_type_41 : decode cX7_type 41 = .ok (.iconst 1, 1) := by decide +kernel
theorem dX7_type_42 : decode cX7_type 42 = .ok (.iadd, 1) := by decide +kernel
theorem dX7_type_43 : decode cX7_type 43 = .ok (.putfield 144, 3) := by decide +kernel
theorem dX7_type_46 : decode cX7_type 46 = .ok (.aload_n 0, 1) := by decide +kernel
theorem dX7_type_47 : decode cX7_type 47 = .ok (.getfield 144, 3) := by decide +kernel
theorem dX7_type_50 : decode cX7_type 50 = .ok (.ireturn, 1) := by decide +kernel
theorem dX7_clearText_0 : decode cX7_clearText 0 = .ok (.aload_n 0, 1) := by decide +kernel
theorem dX7_clearText_1 : decode cX7_clearText 1 = .ok (.getfield 144, 3) := by decide +kernel
theorem dX7_clearText_4 : decode cX7_clearText 4 = .ok (.istore_n 1, 1) := by decide +kernel
theorem dX7_clearText_5 : decode cX7_clearText 5 = .ok (.aload_n 0, 1) := by decide +kernel
theorem dX7_clearText_6 : decode cX7_clearText 6 = .ok (.iconst 0, 1) := by decide +kernel
theorem dX7_clearText_7 : decode cX7_clearText 7 = .ok (.putfield 144, 3) := by decide +kernel
theorem dX7_clearText_10 : decode cX7_clearText 10 = .ok (.iload_n 1, 1) := by decide +kernel
theorem dX7_clearText_11 : decode cX7_clearText 11 = .ok (.ireturn, 1) := by decide +kernel
set_option maxRecDepth 20000 in
theorem ggX7_isAt_X7_in : GoodIn wsX7_isAt wsX7_in := goodIn_r _ [7] (by decide +kernel) (by decide +kernel)
set_option maxRecDepth 20000 in
theorem gX7_isAt_X7_in : GoodIn wsX7_isAt (va_wsS RX7 84 yX7_in wsX7_in) := goodIn_app (goodIn_of _ (by decide +kernel)) ggX7_isAt_X7_in
theorem dX7_isAt_0 : decode cX7_isAt 0 = .ok (.aload_n 0, 1) := by decide +kernel
theorem dX7_isAt_1 : decode cX7_isAt 1 = .ok (.getfield 147, 3) := by decide +kernel
theorem dX7_isAt_4 : decode cX7_isAt 4 = .ok (.aload_n 0, 1) := by decide +kernel
theorem dX7_isAt_5 : decode cX7_isAt 5 = .ok (.getfield 144, 3) := by decide +kernel
theorem dX7_isAt_8 : decode cX7_isAt 8 = .ok (.if_icmp .ge 24, 3) := by decide +kernel
theorem dX7_isAt_11 : decode cX7_isAt 11 = .ok (.aload_n 0, 1) := by decide +kernel
theorem dX7_isAt_12 : decode cX7_isAt 12 = .ok (.getfield 19, 3) := by decide +kernel
theorem dX7_isAt_15 : decode cX7_isAt 15 = .ok (.aload_n 0, 1) := by decide +kernel
theorem dX7_isAt_16 : decode cX7_isAt 16 = .ok (.getfield 147, 3) := by decide +kernel
theorem dX7_isAt_19 : decode cX7_isAt 19 = .ok (.iaload, 1) := by decide +kernel
theorem dX7_isAt_20 : decode cX7_isAt 20 = .ok (.iload_n 1, 1) := by decide +kernel
theorem dX7_isAt_21 : decode cX7_isAt 21 = .ok (.iload_n 2, 1) := by decide +kernel
theorem dX7_isAt_22 : decode cX7_isAt 22 = .ok (.invokestatic 84, 3) := by decide +kernel
theorem dX7_isAt_25 : decode cX7_isAt 25 = .ok (.ifCond .eq 7, 3) := by decide +kernel
theorem dX7_isAt_28 : decode cX7_isAt 28 = .ok (.iconst 1, 1) := by decide +kernel
theorem dX7_isAt_29 : decode cX7_isAt 29 = .ok (.goto 4, 3) := by decide +kernel
theorem dX7_isAt_32 : decode cX7_isAt 32 = .ok (.iconst 0, 1) := by decide +kernel
theorem dX7_isAt_33 : decode cX7_isAt 33 = .ok (.ireturn, 1) := by decide +kernel
set_option maxRecDepth 20000 in
theorem ggX7_passes_X7_isAt : GoodIn wsX7_passes wsX7_isAt := goodIn_r _ [6, 1, 7, 8, 9, 10, 5, 11, 12, 13, 14, 15, 16, 17, 18, 19, 20, 21, 22, 23, 24, 25, 26, 27, 28, 29] (by decide +kernel) (by decide +kernel)
set_option maxRecDepth 20000 in
theorem gX7_passes_X7_isAt : GoodIn wsX7_passes (wsV RX7 150 RX7 yX7_isAt wsX7_isAt) := goodIn_app (goodIn_of _ (by decide +kernel)) ggX7_passes_X7_isAt
theorem dX7_passes_0 : decode cX7_passes 0 = .ok (.aload_n 0, 1) := by decide +kernel
theorem dX7_passes_1 : decode cX7_passes 1 = .ok (.iload_n 1, 1) := by decide +kernel
theorem dX7_passes_2 : decode cX7_passes 2 = .ok (.iload_n 1, 1) := by decide +kernel
theorem dX7_passes_3 : decode cX7_passes 3 = .ok (.invokevirtual 150, 3) := by decide +kernel
theorem dX7_passes_6 : decode cX7_passes 6 = .ok (.istore_n 2, 1) := by decide +kernel
theorem dX7_passes_7 : decode cX7_passes 7 = .ok (.aload_n 0, 1) := by decide +kernel
theorem dX7_passes_8 : decode cX7_passes 8 = .ok (.dup, 1) := by decide +kernel
theorem dX7_passes_9 : decode cX7_passes 9 = .ok (.getfield 147, 3) := by decide +kernel
theorem dX7_passes_12 : decode cX7_passes 12 = .ok (.iload_n 2, 1) := by decide +kernel
theorem dX7_passes_13 : decode cX7_passes 13 = .ok (.ifCond .eq 7, 3) := by decide +kernel
theorem dX7_passes_16 : decode cX7_passes 16 = .ok (.iconst 1, 1) := by decide +kernel
theorem dX7_passes_17 : decode cX7_passes 17 = .ok (.goto 4, 3) := by decide +kernel
theorem dX7_passes_20 : decode cX7_passes 20 = .ok (.iconst 0, 1) := by decide +kernel
theorem dX7_passes_21 : decode cX7_passes 21 = .ok (.iadd, 1) := by decide +kernel
theorem dX7_passes_22 : decode cX7_passes 22 = .ok (.putfield 147, 3) := by decide +kernel
theorem dX7_passes_25 : decode cX7_passes 25 = .ok (.iload_n 2, 1) := by decide +kernel
theorem dX7_passes_26 : decode cX7_passes 26 = .ok (.ireturn, 1) := by decide +kernel
set_option maxRecDepth 20000 in
theorem ggX7_number_X7_isAt : GoodIn wsX7_number wsX7_isAt := goodIn_r _ [8, 1, 9, 3, 10, 11, 7, 12, 13, 14, 15, 16, 17, 18, 19, 20, 21, 22, 23, 24, 25, 26, 27, 28, 29, 30] (by decide +kernel) (by decide +kernel)
set_option maxRecDepth 20000 in
theorem gX7_number_X7_isAt : GoodIn wsX7_number (wsV RX7 150 RX7 yX7_isAt wsX7_isAt) := goodIn_app (goodIn_of _ (by decide +kernel)) ggX7_number_X7_isAt
theorem dX7_number_0 : decode cX7_number 0 = .ok (.aload_n 0, 1) := by decide +kernel
theorem dX7_number_1 : decode cX7_number 1 = .ok (.getfield 147, 3) := by decide +kernel
theorem dX7_number_4 : decode cX7_number 4 = .ok (.istore_n 2, 1) := by decide +kernel
theorem dX7_number_5 : decode cX7_number 5 = .ok (.aload_n 0, 1) := by decide +kernel
theorem dX7_number_6 : decode cX7_number 6 = .ok (.getfield 35, 3) := by decide +kernel
theorem dX7_number_9 : decode cX7_number 9 = .ok (.iload_n 1, 1) := by decide +kernel
theorem dX7_number_10 : decode cX7_number 10 = .ok (.iconst 0, 1) := by decide +kernel
theorem dX7_number_11 : decode cX7_number 11 = .ok (.iastore, 1) := by decide +kernel
theorem dX7_number_12 : decode cX7_number 12 = .ok (.aload_n 0, 1) := by decide +kernel
theorem dX7_number_13 : decode cX7_number 13 = .ok (.bipush 48, 2) := by decide +kernel
theorem dX7_number_15 : decode cX7_number 15 = .ok (.bipush 57, 2) := by decide +kernel
theorem dX7_number_17 : decode cX7_number 17 = .ok (.invokevirtual 150, 3) := by decide +kernel
theorem dX7_number_20 : decode cX7_number 20 = .ok (.ifCond .eq 54, 3) := by decide +kernel
theorem dX7_number_23 : decode cX7_number 23 = .ok (.aload_n 0, 1) := by decide +kernel
theorem dX7_number_24 : decode cX7_number 24 = .ok (.getfield 147, 3) := by decide +kernel
theorem dX7_number_27 : decode cX7_number 27 = .ok (.iload_n 2, 1) := by decide +kernel
theorem dX7_number_28 : decode cX7_number 28 = .ok (.isub, 1) := by decide +kernel
theorem dX7_number_29 : decode cX7_number 29 = .ok (.iconst 2, 1) := by decide +kernel
theorem dX7_number_30 : decode cX7_number 30 = .ok (.if_icmp .ge 44, 3) := by decide +kernel
theorem dX7_number_33 : decode cX7_number 33 = .ok (.aload_n 0, 1) := by decide +kernel
theorem dX7_number_34 : decode cX7_number 34 = .ok (.getfield 35, 3) := by decide +kernel
theorem dX7_number_37 : decode cX7_number 37 = .ok (.iload_n 1, 1) := by decide +kernel
theorem dX7_number_38 : decode cX7_number 38 = .ok (.bipush 10, 2) := by decide +kernel
theorem dX7_number_40 : decode cX7_number 40 = .ok (.aload_n 0, 1) := by decide +kernel
theorem dX7_number_41 : decode cX7_number 41 = .ok (.getfield 35, 3) := by decide +kernel
theorem dX7_number_44 : decode cX7_number 44 = .ok (.iload_n 1, 1) := by decide +kernel
theorem dX7_number_45 : decode cX7_number 45 = .ok (.iaload, 1) := by decide +kernel
theorem dX7_number_46 : decode cX7_number 46 = .ok (.imul, 1) := by decide +kernel
theorem dX7_number_47 : decode cX7_number 47 = .ok (.aload_n 0, 1) := by decide +kernel
theorem dX7_number_48 : decode cX7_number 48 = .ok (.getfield 19, 3) := by decide +kernel
theorem dX7_number_51 : decode cX7_number 51 = .ok (.aload_n 0, 1) := by decide +kernel
theorem dX7_number_52 : decode cX7_number 52 = .ok (.getfield 147, 3) := by decide +kernel
theorem dX7_number_55 : decode cX7_number 55 = .ok (.iaload, 1) := by decide +kernel
theorem dX7_number_56 : decode cX7_number 56 = .ok (.iadd, 1) := by decide +kernel
theorem dX7_number_57 : decode cX7_number 57 = .ok (.bipush 48, 2) := by decide +kernel
theorem dX7_number_59 : decode cX7_number 59 = .ok (.isub, 1) := by decide +kernel
theorem dX7_number_60 : decode cX7_number 60 = .ok (.iastore, 1) := by decide +kernel
theorem dX7_number_61 : decode cX7_number 61 = .ok (.aload_n 0, 1) := by decide +kernel
theorem dX7_number_62 : decode cX7_number 62 = .ok (.dup, 1) := by decide +kernel
theorem dX7_number_63 : decode cX7_number 63 = .ok (.getfield 147, 3) := by decide +kernel
theorem dX7_number_66 : decode cX7_number 66 = .ok (.iconst 1, 1) := by decide +kernel
theorem dX7_number_67 : decode cX7_number 67 = .ok (.iadd, 1) := by decide +kernel
theorem dX7_number_68 : decode cX7_number 68 = .ok (.putfield 147, 3) := by decide +kernel
theorem dX7_number_71 : decode cX7_number 71 = .ok (.goto (-59), 3) := by decide +kernel
theorem dX7_number_74 : decode cX7_number 74 = .ok (.aload_n 0, 1) := by decide +kernel
theorem dX7_number_75 : decode cX7_number 75 = .ok (.getfield 147, 3) := by decide +kernel
theorem dX7_number_78 : decode cX7_number 78 = .ok (.iload_n 2, 1) := by decide +kernel
theorem dX7_number_79 : decode cX7_number 79 = .ok (.if_icmp .le 7, 3) := by decide +kernel
theorem dX7_number_82 : decode cX7_number 82 = .ok (.iconst 1, 1) := by decide +kernel
theorem dX7_number_83 : decode cX7_number 83 = .ok (.goto 4, 3) := by decide +kernel
theorem dX7_number_86 : decode cX7_number 86 = .ok (.iconst 0, 1) := by decide +kernel
theorem dX7_number_87 : decode cX7_number 87 = .ok (.ireturn, 1) := by decide +kernel
set_option maxRecDepth 20000 in
theorem ggX7_reads_X7_isAt : GoodIn wsX7_reads wsX7_isAt := goodIn_r _ [9, 2, 10, 1, 11, 12, 8, 13, 22, 23, 24, 25, 26, 27, 28, 29, 30, 31, 32, 33, 34, 35, 36, 37, 38, 39] (by decide +kernel) (by decide +kernel)
set_option maxRecDepth 20000 in
theorem gX7_reads_X7_isAt : GoodIn wsX7_reads (wsV RX7 150 RX7 yX7_isAt wsX7_isAt) := goodIn_app (goodIn_of _ (by decide +kernel)) ggX7_reads_X7_isAt
set_option maxRecDepth 20000 in
theorem ggX7_reads_X7_passes : GoodIn wsX7_reads wsX7_passes := goodIn_r _ [17, 2, 5, 6, 7, 8, 9, 10, 1, 11, 12, 13, 22, 23, 24, 25, 26, 27, 28, 29, 30, 31, 32, 33, 34, 35, 36, 37, 38, 39] (by decide +kernel) (by decide +kernel)
set_option maxRecDepth 20000 in
theorem gX7_reads_X7_passes : GoodIn wsX7_reads (wsV RX7 157 RX7 yX7_passes wsX7_passes) := goodIn_app (goodIn_of _ (by decide +kernel)) ggX7_reads_X7_passes
set_option maxRecDepth 20000 in
theorem ggX7_reads_X7_number : GoodIn wsX7_reads wsX7_number := goodIn_r _ [21, 2, 4, 1, 5, 6, 7, 8, 9, 10, 11, 12, 13, 22, 23, 24, 25, 26, 27, 28, 29, 30, 31, 32, 33, 34, 35, 36, 37, 38, 39] (by decide +kernel) (by decide +kernel)
set_option maxRecDepth 20000 in
theorem gX7_reads_X7_number : GoodIn wsX7_reads (wsV RX7 160 RX7 yX7_number wsX7_number) := goodIn_app (goodIn_of _ (by decide +kernel)) ggX7_reads_X7_number
theorem dX7_reads_0 : decode cX7_reads 0 = .ok (.aload_n 0, 1) := by decide +kernel
theorem dX7_reads_1 : decode cX7_reads 1 = .ok (.aload_n 0, 1) := by decide +kernel
theorem dX7_reads_2 : decode cX7_reads 2 = .ok (.bipush 33, 2) := by decide +kernel
theorem dX7_reads_4 : decode cX7_reads 4 = .ok (.bipush 126, 2) := by decide +kernel
theorem dX7_reads_6 : decode cX7_reads 6 = .ok (.invokevirtual 150, 3) := by decide +kernel
theorem dX7_reads_9 : decode cX7_reads 9 = .ok (.ifCond .eq 15, 3) := by decide +kernel
theorem dX7_reads_12 : decode cX7_reads 12 = .ok (.aload_n 0, 1) := by decide +kernel
theorem dX7_reads_13 : decode cX7_reads 13 = .ok (.getfield 19, 3) := by decide +kernel
theorem dX7_reads_16 : decode cX7_reads 16 = .ok (.aload_n 0, 1) := by decide +kernel
theorem dX7_reads_17 : decode cX7_reads 17 = .ok (.getfield 147, 3) := by decide +kernel
theorem dX7_reads_20 : decode cX7_reads 20 = .ok (.iaload, 1) := by decide +kernel
theorem dX7_reads_21 : decode cX7_reads 21 = .ok (.goto 4, 3) := by decide +kernel
theorem dX7_reads_24 : decode cX7_reads 24 = .ok (.iconst 0, 1) := by decide +kernel
theorem dX7_reads_25 : decode cX7_reads 25 = .ok (.putfield 154, 3) := by decide +kernel
theorem dX7_reads_28 : decode cX7_reads 28 = .ok (.aload_n 0, 1) := by decide +kernel
theorem dX7_reads_29 : decode cX7_reads 29 = .ok (.getfield 154, 3) := by decide +kernel
theorem dX7_reads_32 : decode cX7_reads 32 = .ok (.bipush 109, 2) := by decide +kernel
theorem dX7_reads_34 : decode cX7_reads 34 = .ok (.if_icmp .eq 23, 3) := by decide +kernel
theorem dX7_reads_37 : decode cX7_reads 37 = .ok (.aload_n 0, 1) := by decide +kernel
theorem dX7_reads_38 : decode cX7_reads 38 = .ok (.getfield 154, 3) := by decide +kernel
theorem dX7_reads_41 : decode cX7_reads 41 = .ok (.bipush 111, 2) := by decide +kernel
theorem dX7_reads_43 : decode cX7_reads 43 = .ok (.if_icmp .eq 14, 3) := by decide +kernel
theorem dX7_reads_46 : decode cX7_reads 46 = .ok (.aload_n 0, 1) := by decide +kernel
theorem dX7_reads_47 : decode cX7_reads 47 = .ok (.getfield 154, 3) := by decide +kernel
theorem dX7_reads_50 : decode cX7_reads 50 = .ok (.bipush 114, 2) := by decide +kernel
theorem dX7_reads_52 : decode cX7_reads 52 = .ok (.if_icmp .eq 5, 3) := by decide +kernel
theorem dX7_reads_55 : decode cX7_reads 55 = .ok (.iconst 0, 1) := by decide +kernel
theorem dX7_reads_56 : decode cX7_reads 56 = .ok (.ireturn, 1) := by decide +kernel
theorem dX7_reads_57 : decode cX7_reads 57 = .ok (.aload_n 0, 1) := by decide +kernel
theorem dX7_reads_58 : decode cX7_reads 58 = .ok (.dup, 1) := by decide +kernel
theorem dX7_reads_59 : decode cX7_reads 59 = .ok (.getfield 147, 3) := by decide +kernel
theorem dX7_reads_62 : decode cX7_reads 62 = .ok (.iconst 1, 1) := by decide +kernel
theorem dX7_reads_63 : decode cX7_reads 63 = .ok (.iadd, 1) := by decide +kernel
theorem dX7_reads_64 : decode cX7_reads 64 = .ok (.putfield 147, 3) := by decide +kernel
theorem dX7_reads_67 : decode cX7_reads 67 = .ok (.aload_n 0, 1) := by decide +kernel
theorem dX7_reads_68 : decode cX7_reads 68 = .ok (.getfield 154, 3) := by decide +kernel
theorem dX7_reads_71 : decode cX7_reads 71 = .ok (.bipush 114, 2) := by decide +kernel
theorem dX7_reads_73 : decode cX7_reads 73 = .ok (.if_icmp .ne 10, 3) := by decide +kernel
theorem dX7_reads_76 : decode cX7_reads 76 = .ok (.aload_n 0, 1) := by decide +kernel
theorem dX7_reads_77 : decode cX7_reads 77 = .ok (.bipush 59, 2) := by decide +kernel
theorem dX7_reads_79 : decode cX7_reads 79 = .ok (.invokevirtual 157, 3) := by decide +kernel
theorem dX7_reads_82 : decode cX7_reads 82 = .ok (.ireturn, 1) := by decide +kernel
theorem dX7_reads_83 : decode cX7_reads 83 = .ok (.aload_n 0, 1) := by decide +kernel
theorem dX7_reads_84 : decode cX7_reads 84 = .ok (.getfield 154, 3) := by decide +kernel
theorem dX7_reads_87 : decode cX7_reads 87 = .ok (.bipush 109, 2) := by decide +kernel
theorem dX7_reads_89 : decode cX7_reads 89 = .ok (.if_icmp .ne 16, 3) := by decide +kernel
theorem dX7_reads_92 : decode cX7_reads 92 = .ok (.aload_n 0, 1) := by decide +kernel
theorem dX7_reads_93 : decode cX7_reads 93 = .ok (.bipush 45, 2) := by decide +kernel
theorem dX7_reads_95 : decode cX7_reads 95 = .ok (.invokevirtual 157, 3) := by decide +kernel
theorem dX7_reads_98 : decode cX7_reads 98 = .ok (.ifCond .eq 7, 3) := by decide +kernel
theorem dX7_reads_101 : decode cX7_reads 101 = .ok (.iconst 1, 1) := by decide +kernel
theorem dX7_reads_102 : decode cX7_reads 102 = .ok (.goto 4, 3) := by decide +kernel
theorem dX7_reads_105 : decode cX7_reads 105 = .ok (.iconst 0, 1) := by decide +kernel
theorem dX7_reads_106 : decode cX7_reads 106 = .ok (.istore_n 1, 1) := by decide +kernel
theorem dX7_reads_107 : decode cX7_reads 107 = .ok (.aload_n 0, 1) := by decide +kernel
theorem dX7_reads_108 : decode cX7_reads 108 = .ok (.iconst 0, 1) := by decide +kernel
theorem dX7_reads_109 : decode cX7_reads 109 = .ok (.invokevirtual 160, 3) := by decide +kernel
theorem dX7_reads_112 : decode cX7_reads 112 = .ok (.ifCond .eq 33, 3) := by decide +kernel
theorem dX7_reads_115 : decode cX7_reads 115 = .ok (.aload_n 0, 1) := by decide +kernel
theorem dX7_reads_116 : decode cX7_reads 116 = .ok (.bipush 44, 2) := by decide +kernel
theorem dX7_reads_118 : decode cX7_reads 118 = .ok (.invokevirtual 157, 3) := by decide +kernel
theorem dX7_reads_121 : decode cX7_reads 121 = .ok (.ifCond .eq 24, 3) := by decide +kernel
theorem dX7_reads_124 : decode cX7_reads 124 = .ok (.aload_n 0, 1) := by decide +kernel
theorem dX7_reads_125 : decode cX7_reads 125 = .ok (.iconst 1, 1) := by decide +kernel
theorem dX7_reads_126 : decode cX7_reads 126 = .ok (.invokevirtual 160, 3) := by decide +kernel
theorem dX7_reads_129 : decode cX7_reads 129 = .ok (.ifCond .eq 16, 3) := by decide +kernel
theorem dX7_reads_132 : decode cX7_reads 132 = .ok (.aload_n 0, 1) := by decide +kernel
theorem dX7_reads_133 : decode cX7_reads 133 = .ok (.bipush 59, 2) := by decide +kernel
theorem dX7_reads_135 : decode cX7_reads 135 = .ok (.invokevirtual 157, 3) := by decide +kernel
theorem dX7_reads_138 : decode cX7_reads 138 = .ok (.ifCond .eq 7, 3) := by decide +kernel
theorem dX7_reads_141 : decode cX7_reads 141 = .ok (.iconst 1, 1) := by decide +kernel
theorem dX7_reads_142 : decode cX7_reads 142 = .ok (.goto 4, 3) := by decide +kernel
theorem dX7_reads_145 : decode cX7_reads 145 = .ok (.iconst 0, 1) := by decide +kernel
theorem dX7_reads_146 : decode cX7_reads 146 = .ok (.istore_n 2, 1) := by decide +kernel
theorem dX7_reads_147 : decode cX7_reads 147 = .ok (.aload_n 0, 1) := by decide +kernel
theorem dX7_reads_148 : decode cX7_reads 148 = .ok (.getfield 35, 3) := by decide +kernel
theorem dX7_reads_151 : decode cX7_reads 151 = .ok (.iconst 0, 1) := by decide +kernel
theorem dX7_reads_152 : decode cX7_reads 152 = .ok (.iload_n 1, 1) := by decide +kernel
theorem dX7_reads_153 : decode cX7_reads 153 = .ok (.ifCond .eq 13, 3) := by decide +kernel
theorem dX7_reads_156 : decode cX7_reads 156 = .ok (.aload_n 0, 1) := by decide +kernel
theorem dX7_reads_157 : decode cX7_reads 157 = .ok (.getfield 35, 3) := by decide +kernel
theorem dX7_reads_160 : decode cX7_reads 160 = .ok (.iconst 0, 1) := by decide +kernel
theorem dX7_reads_161 : decode cX7_reads 161 = .ok (.iaload, 1) := by decide +kernel
theorem dX7_reads_162 : decode cX7_reads 162 = .ok (.ineg, 1) := by decide +kernel
theorem dX7_reads_163 : decode cX7_reads 163 = .ok (.goto 9, 3) := by decide +kernel
theorem dX7_reads_166 : decode cX7_reads 166 = .ok (.aload_n 0, 1) := by decide +kernel
theorem dX7_reads_167 : decode cX7_reads 167 = .ok (.getfield 35, 3) := by decide +kernel
theorem dX7_reads_170 : decode cX7_reads 170 = .ok (.iconst 0, 1) := by decide +kernel
theorem dX7_reads_171 : decode cX7_reads 171 = .ok (.iaload, 1) := by decide +kernel
theorem dX7_reads_172 : decode cX7_reads 172 = .ok (.iastore, 1) := by decide +kernel
theorem dX7_reads_173 : decode cX7_reads 173 = .ok (.iload_n 2, 1) := by decide +kernel
theorem dX7_reads_174 : decode cX7_reads 174 = .ok (.ireturn, 1) := by decide +kernel
set_option maxRecDepth 20000 in
theorem ggX7_calls_X7_move : GoodIn wsX7_calls wsX7_move := goodIn_r _ [7, 8, 9, 10, 11, 12, 6, 13, 14, 15, 16, 17, 18, 19, 20, 21, 22, 23, 24, 25, 26, 27, 28, 29, 30, 31, 32, 33, 93, 94, 95, 96, 97, 98, 99, 100, 101, 102, 103, 104, 105, 106, 107, 108, 109, 110] (by decide +kernel) (by decide +kernel)
set_option maxRecDepth 20000 in
theorem gX7_calls_X7_move : GoodIn wsX7_calls (wsV RX7 163 RX7 yX7_move wsX7_move) := goodIn_app (goodIn_of _ (by decide +kernel)) ggX7_calls_X7_move
set_option maxRecDepth 20000 in
theorem ggX7_calls_X7_observe : GoodIn wsX7_calls wsX7_observe := goodIn_r _ [37, 8, 38, 39, 9, 10, 40, 11, 12, 6, 13, 41, 42, 43, 44, 45, 46, 47, 48, 25, 26, 27, 28, 49, 50, 51, 52, 53, 54, 55, 56, 57, 58, 59, 60, 61, 62, 63, 14, 15, 16, 17, 18, 19, 20, 64, 65, 66, 67, 68, 69, 70, 71, 72, 73, 74, 75, 76, 77, 78, 79, 80, 81, 82, 83, 84, 29, 30, 31, 32, 33, 21, 22, 23, 24, 93, 94, 95, 96, 97, 98, 99, 100, 101, 102, 103, 104, 105, 106, 107, 108, 109, 110] (by decide +kernel) (by decide +kernel)
set_option maxRecDepth 20000 in
theorem gX7_calls_X7_observe : GoodIn wsX7_calls (wsV RX7 166 RX7 yX7_observe wsX7_observe) := goodIn_app (goodIn_of _ (by decide +kernel)) ggX7_calls_X7_observe
set_option maxRecDepth 20000 in
theorem ggX7_calls_X7_resample : GoodIn wsX7_calls wsX7_resample := goodIn_r _ [88, 9, 10, 14, 15, 16, 6, 17, 18, 19, 20, 64, 65, 66, 67, 68, 69, 70, 71, 72, 73, 74, 75, 76, 77, 78, 79, 60, 61, 62, 63, 80, 81, 82, 83, 84, 29, 30, 31, 32, 33, 21, 22, 23, 24, 25, 26, 27, 28, 45, 46, 47, 48, 89, 90, 91, 92, 93, 94, 95, 96, 97, 98, 99, 100, 101, 102, 103, 104, 105, 106, 107, 108, 109, 110] (by decide +kernel) (by decide +kernel)
set_option maxRecDepth 20000 in
theorem gX7_calls_X7_resample : GoodIn wsX7_calls (wsV RX7 169 RX7 yX7_resample wsX7_resample) := goodIn_app (goodIn_of _ (by decide +kernel)) ggX7_calls_X7_resample
theorem dX7_calls_0 : decode cX7_calls 0 = .ok (.aload_n 0, 1) := by decide +kernel
theorem dX7_calls_1 : decode cX7_calls 1 = .ok (.getfield 154, 3) := by decide +kernel
theorem dX7_calls_4 : decode cX7_calls 4 = .ok (.bipush 109, 2) := by decide +kernel
theorem dX7_calls_6 : decode cX7_calls 6 = .ok (.if_icmp .ne 22, 3) := by decide +kernel
theorem dX7_calls_9 : decode cX7_calls 9 = .ok (.aload_n 0, 1) := by decide +kernel
theorem dX7_calls_10 : decode cX7_calls 10 = .ok (.aload_n 0, 1) := by decide +kernel
theorem dX7_calls_11 : decode cX7_calls 11 = .ok (.getfield 35, 3) := by decide +kernel
theorem dX7_calls_14 : decode cX7_calls 14 = .ok (.iconst 0, 1) := by decide +kernel
theorem dX7_calls_15 : decode cX7_calls 15 = .ok (.iaload, 1) := by decide +kernel
theorem dX7_calls_16 : decode cX7_calls 16 = .ok (.aload_n 0, 1) := by decide +kernel
theorem dX7_calls_17 : decode cX7_calls 17 = .ok (.getfield 35, 3) := by decide +kernel
theorem dX7_calls_20 : decode cX7_calls 20 = .ok (.iconst 1, 1) := by decide +kernel
theorem dX7_calls_21 : decode cX7_calls 21 = .ok (.iaload, 1) := by decide +kernel
theorem dX7_calls_22 : decode cX7_calls 22 = .ok (.invokevirtual 163, 3) := by decide +kernel
theorem dX7_calls_25 : decode cX7_calls 25 = .ok (.goto 35, 3) := by decide +kernel
theorem dX7_calls_28 : decode cX7_calls 28 = .ok (.aload_n 0, 1) := by decide +kernel
theorem dX7_calls_29 : decode cX7_calls 29 = .ok (.getfield 154, 3) := by decide +kernel
theorem dX7_calls_32 : decode cX7_calls 32 = .ok (.bipush 111, 2) := by decide +kernel
theorem dX7_calls_34 : decode cX7_calls 34 = .ok (.if_icmp .ne 22, 3) := by decide +kernel
theorem dX7_calls_37 : decode cX7_calls 37 = .ok (.aload_n 0, 1) := by decide +kernel
theorem dX7_calls_38 : decode cX7_calls 38 = .ok (.aload_n 0, 1) := by decide +kernel
theorem dX7_calls_39 : decode cX7_calls 39 = .ok (.getfield 35, 3) := by decide +kernel
theorem dX7_calls_42 : decode cX7_calls 42 = .ok (.iconst 0, 1) := by decide +kernel
theorem dX7_calls_43 : decode cX7_calls 43 = .ok (.iaload, 1) := by decide +kernel
theorem dX7_calls_44 : decode cX7_calls 44 = .ok (.aload_n 0, 1) := by decide +kernel
theorem dX7_calls_45 : decode cX7_calls 45 = .ok (.getfield 35, 3) := by decide +kernel
theorem dX7_calls_48 : decode cX7_calls 48 = .ok (.iconst 1, 1) := by decide +kernel
theorem dX7_calls_49 : decode cX7_calls 49 = .ok (.iaload, 1) := by decide +kernel
theorem dX7_calls_50 : decode cX7_calls 50 = .ok (.invokevirtual 166, 3) := by decide +kernel
theorem dX7_calls_53 : decode cX7_calls 53 = .ok (.goto 7, 3) := by decide +kernel
theorem dX7_calls_56 : decode cX7_calls 56 = .ok (.aload_n 0, 1) := by decide +kernel
theorem dX7_calls_57 : decode cX7_calls 57 = .ok (.invokevirtual 169, 3) := by decide +kernel
theorem dX7_calls_60 : decode cX7_calls 60 = .ok (.ireturn, 1) := by decide +kernel
set_option maxRecDepth 20000 in
theorem ggX7_plays_X7_reads : GoodIn wsX7_plays wsX7_reads := goodIn_r _ [12, 13, 2, 14, 15, 16, 17, 18, 11, 19, 5, 20, 21, 22, 23, 24, 25, 26, 27, 28, 29, 30, 120, 121, 122, 123, 124, 125, 126, 127, 128, 129, 130, 131, 132, 133, 134, 135, 136, 137] (by decide +kernel) (by decide +kernel)
set_option maxRecDepth 20000 in
theorem gX7_plays_X7_reads : GoodIn wsX7_plays (wsV RX7 178 RX7 yX7_reads wsX7_reads) := goodIn_app (goodIn_of _ (by decide +kernel)) ggX7_plays_X7_reads
set_option maxRecDepth 20000 in
theorem ggX7_plays_X7_calls : GoodIn wsX7_plays wsX7_calls := goodIn_r _ [34, 14, 15, 35, 36, 37, 11, 38, 39, 40, 41, 20, 21, 22, 42, 43, 44, 45, 1, 46, 47, 48, 49, 50, 51, 52, 53, 54, 55, 56, 57, 58, 59, 60, 61, 62, 63, 64, 65, 66, 67, 68, 69, 70, 71, 72, 73, 74, 75, 76, 77, 78, 79, 80, 81, 82, 83, 84, 85, 86, 87, 88, 89, 90, 91, 92, 93, 94, 95, 96, 97, 98, 99, 100, 101, 102, 103, 104, 105, 106, 107, 108, 109, 110, 111, 112, 113, 114, 115, 116, 117, 118, 119, 120, 121, 122, 123, 124, 125, 126, 127, 128, 129, 130, 131, 132, 133, 134, 135, 136, 137] (by decide +kernel) (by decide +kernel)
set_option maxRecDepth 20000 in
theorem gX7_plays_X7_calls : GoodIn wsX7_plays (wsV RX7 182 RX7 yX7_calls wsX7_calls) := goodIn_app (goodIn_of _ (by decide +kernel)) ggX7_plays_X7_calls
theorem dX7_plays_0 : decode cX7_plays 0 = .ok (.aload_n 0, 1) := by decide +kernel
theorem dX7_plays_1 : decode cX7_plays 1 = .ok (.iconst 1, 1) := by decide +kernel
theorem dX7_plays_2 : decode cX7_plays 2 = .ok (.putfield 42, 3) := by decide +kernel
theorem dX7_plays_5 : decode cX7_plays 5 = .ok (.aload_n 0, 1) := by decide +kernel
theorem dX7_plays_6 : decode cX7_plays 6 = .ok (.iconst 0, 1) := by decide +kernel
theorem dX7_plays_7 : decode cX7_plays 7 = .ok (.putfield 147, 3) := by decide +kernel
theorem dX7_plays_10 : decode cX7_plays 10 = .ok (.aload_n 0, 1) := by decide +kernel
theorem dX7_plays_11 : decode cX7_plays 11 = .ok (.iconst 0, 1) := by decide +kernel
theorem dX7_plays_12 : decode cX7_plays 12 = .ok (.putfield 172, 3) := by decide +kernel
theorem dX7_plays_15 : decode cX7_plays 15 = .ok (.aload_n 0, 1) := by decide +kernel
theorem dX7_plays_16 : decode cX7_plays 16 = .ok (.iconst 0, 1) := by decide +kernel
theorem dX7_plays_17 : decode cX7_plays 17 = .ok (.putfield 175, 3) := by decide +kernel
theorem dX7_plays_20 : decode cX7_plays 20 = .ok (.iconst 1, 1) := by decide +kernel
theorem dX7_plays_21 : decode cX7_plays 21 = .ok (.istore_n 1, 1) := by decide +kernel
theorem dX7_plays_22 : decode cX7_plays 22 = .ok (.aload_n 0, 1) := by decide +kernel
theorem dX7_plays_23 : decode cX7_plays 23 = .ok (.getfield 147, 3) := by decide +kernel
theorem dX7_plays_26 : decode cX7_plays 26 = .ok (.aload_n 0, 1) := by decide +kernel
theorem dX7_plays_27 : decode cX7_plays 27 = .ok (.getfield 144, 3) := by decide +kernel
theorem dX7_plays_30 : decode cX7_plays 30 = .ok (.if_icmp .ge 94, 3) := by decide +kernel
theorem dX7_plays_33 : decode cX7_plays 33 = .ok (.iload_n 1, 1) := by decide +kernel
theorem dX7_plays_34 : decode cX7_plays 34 = .ok (.ifCond .eq 90, 3) := by decide +kernel
theorem dX7_plays_37 : decode cX7_plays 37 = .ok (.aload_n 0, 1) := by decide +kernel
theorem dX7_plays_38 : decode cX7_plays 38 = .ok (.aload_n 0, 1) := by decide +kernel
theorem dX7_plays_39 : decode cX7_plays 39 = .ok (.getfield 147, 3) := by decide +kernel
theorem dX7_plays_42 : decode cX7_plays 42 = .ok (.putfield 172, 3) := by decide +kernel
theorem dX7_plays_45 : decode cX7_plays 45 = .ok (.aload_n 0, 1) := by decide +kernel
theorem dX7_plays_46 : decode cX7_plays 46 = .ok (.invokevirtual 178, 3) := by decide +kernel
theorem dX7_plays_49 : decode cX7_plays 49 = .ok (.istore_n 2, 1) := by decide +kernel
theorem dX7_plays_50 : decode cX7_plays 50 = .ok (.iload_n 2, 1) := by decide +kernel
theorem dX7_plays_51 : decode cX7_plays 51 = .ok (.ifCond .eq 10, 3) := by decide +kernel
theorem dX7_plays_54 : decode cX7_plays 54 = .ok (.aload_n 0, 1) := by decide +kernel
theorem dX7_plays_55 : decode cX7_plays 55 = .ok (.invokevirtual 182, 3) := by decide +kernel
theorem dX7_plays_58 : decode cX7_plays 58 = .ok (.goto 4, 3) := by decide +kernel
theorem dX7_plays_61 : decode cX7_plays 61 = .ok (.iconst 0, 1) := by decide +kernel
theorem dX7_plays_62 : decode cX7_plays 62 = .ok (.istore_n 3, 1) := by decide +kernel
theorem dX7_plays_63 : decode cX7_plays 63 = .ok (.iload_n 2, 1) := by decide +kernel
theorem dX7_plays_64 : decode cX7_plays 64 = .ok (.ifCond .eq 11, 3) := by decide +kernel
theorem dX7_plays_67 : decode cX7_plays 67 = .ok (.iload_n 3, 1) := by decide +kernel
theorem dX7_plays_68 : decode cX7_plays 68 = .ok (.ifCond .lt 7, 3) := by decide +kernel
theorem dX7_plays_71 : decode cX7_plays 71 = .ok (.iconst 1, 1) := by decide +kernel
theorem dX7_plays_72 : decode cX7_plays 72 = .ok (.goto 4, 3) := by decide +kernel
theorem dX7_plays_75 : decode cX7_plays 75 = .ok (.iconst 0, 1) := by decide +kernel
theorem dX7_plays_76 : decode cX7_plays 76 = .ok (.istore_n 1, 1) := by decide +kernel
theorem dX7_plays_77 : decode cX7_plays 77 = .ok (.aload_n 0, 1) := by decide +kernel
theorem dX7_plays_78 : decode cX7_plays 78 = .ok (.iload_n 2, 1) := by decide +kernel
theorem dX7_plays_79 : decode cX7_plays 79 = .ok (.ifCond .eq 7, 3) := by decide +kernel
theorem dX7_plays_82 : decode cX7_plays 82 = .ok (.iconst 2, 1) := by decide +kernel
theorem dX7_plays_83 : decode cX7_plays 83 = .ok (.goto 4, 3) := by decide +kernel
theorem dX7_plays_86 : decode cX7_plays 86 = .ok (.iconst 1, 1) := by decide +kernel
theorem dX7_plays_87 : decode cX7_plays 87 = .ok (.putfield 185, 3) := by decide +kernel
theorem dX7_plays_90 : decode cX7_plays 90 = .ok (.aload_n 0, 1) := by decide +kernel
theorem dX7_plays_91 : decode cX7_plays 91 = .ok (.iload_n 2, 1) := by decide +kernel
theorem dX7_plays_92 : decode cX7_plays 92 = .ok (.ifCond .eq 7, 3) := by decide +kernel
theorem dX7_plays_95 : decode cX7_plays 95 = .ok (.iload_n 3, 1) := by decide +kernel
theorem dX7_plays_96 : decode cX7_plays 96 = .ok (.goto 12, 3) := by decide +kernel
theorem dX7_plays_99 : decode cX7_plays 99 = .ok (.aload_n 0, 1) := by decide +kernel
theorem dX7_plays_100 : decode cX7_plays 100 = .ok (.getfield 147, 3) := by decide +kernel
theorem dX7_plays_103 : decode cX7_plays 103 = .ok (.aload_n 0, 1) := by decide +kernel
theorem dX7_plays_104 : decode cX7_plays 104 = .ok (.getfield 172, 3) := by decide +kernel
theorem dX7_plays_107 : decode cX7_plays 107 = .ok (.isub, 1) := by decide +kernel
theorem dX7_plays_108 : decode cX7_plays 108 = .ok (.putfield 188, 3) := by decide +kernel
theorem dX7_plays_111 : decode cX7_plays 111 = .ok (.aload_n 0, 1) := by decide +kernel
theorem dX7_plays_112 : decode cX7_plays 112 = .ok (.dup, 1) := by decide +kernel
theorem dX7_plays_113 : decode cX7_plays 113 = .ok (.getfield 175, 3) := by decide +kernel
theorem dX7_plays_116 : decode cX7_plays 116 = .ok (.iconst 1, 1) := by decide +kernel
theorem dX7_plays_117 : decode cX7_plays 117 = .ok (.iadd, 1) := by decide +kernel
theorem dX7_plays_118 : decode cX7_plays 118 = .ok (.putfield 175, 3) := by decide +kernel
theorem dX7_plays_121 : decode cX7_plays 121 = .ok (.goto (-99), 3) := by decide +kernel
theorem dX7_plays_124 : decode cX7_plays 124 = .ok (.aload_n 0, 1) := by decide +kernel
theorem dX7_plays_125 : decode cX7_plays 125 = .ok (.iconst 0, 1) := by decide +kernel
theorem dX7_plays_126 : decode cX7_plays 126 = .ok (.putfield 42, 3) := by decide +kernel
theorem dX7_plays_129 : decode cX7_plays 129 = .ok (.iload_n 1, 1) := by decide +kernel
theorem dX7_plays_130 : decode cX7_plays 130 = .ok (.ireturn, 1) := by decide +kernel
set_option maxRecDepth 20000 in
theorem ggX7_fault_X7_in : GoodIn wsX7_fault wsX7_in := goodIn_r _ [11] (by decide +kernel) (by decide +kernel)
set_option maxRecDepth 20000 in
theorem gX7_fault_X7_in : GoodIn wsX7_fault (va_wsS RX7 84 yX7_in wsX7_in) := goodIn_app (goodIn_of _ (by decide +kernel)) ggX7_fault_X7_in
set_option maxRecDepth 20000 in
theorem ggX7_fault_X7_copies : GoodIn wsX7_fault wsX7_copies := goodIn_r _ [14] (by decide +kernel) (by decide +kernel)
set_option maxRecDepth 20000 in
theorem gX7_fault_X7_copies : GoodIn wsX7_fault (va_wsS RX7 191 yX7_copies wsX7_copies) := goodIn_app (goodIn_of _ (by decide +kernel)) ggX7_fault_X7_copies
set_option maxRecDepth 20000 in
theorem ggX7_fault_X7_plays : GoodIn wsX7_fault wsX7_plays := goodIn_r _ [18, 19, 20, 5, 21, 22, 6, 7, 23, 24, 25, 10, 26, 27, 28, 29, 30, 31, 32, 33, 8, 9, 11, 34, 35, 36, 37, 38, 39, 40, 41, 42, 43, 44, 45, 46, 47, 48, 49, 1, 2, 50, 51, 52, 53, 54, 55, 56, 57, 58, 59, 60, 61, 62, 63, 64, 65, 66, 67, 68, 69, 70, 71, 72, 73, 74, 75, 76, 77, 78, 79, 80, 81, 82, 83, 84, 85, 86, 87, 88, 89, 90, 91, 92, 93, 94, 95, 96, 97, 98, 99, 100, 101, 102, 103, 104, 105, 106, 107, 108, 109, 110, 111, 112, 113, 114, 115, 116, 117, 118, 119, 120, 121, 122, 123, 124, 125, 126, 127, 128, 129, 130, 131, 132, 133, 134, 135, 136, 137, 138, 139, 140, 141, 142, 143, 144, 145, 146] (by decide +kernel) (by decide +kernel)
set_option maxRecDepth 20000 in
theorem gX7_fault_X7_plays : GoodIn wsX7_fault (wsV RX7 195 RX7 yX7_plays wsX7_plays) := goodIn_app (goodIn_of _ (by decide +kernel)) ggX7_fault_X7_plays
theorem dX7_fault_0 : decode cX7_fault 0 = .ok (.iload_n 1, 1) := by decide +kernel
theorem dX7_fault_1 : decode cX7_fault 1 = .ok (.iconst 0, 1) := by decide +kernel
theorem dX7_fault_2 : decode cX7_fault 2 = .ok (.iconst 2, 1) := by decide +kernel
theorem dX7_fault_3 : decode cX7_fault 3 = .ok (.invokestatic 84, 3) := by decide +kernel
theorem dX7_fault_6 : decode cX7_fault 6 = .ok (.ifCond .ne 6, 3) := by decide +kernel
theorem dX7_fault_9 : decode cX7_fault 9 = .ok (.ldc 88, 2) := by decide +kernel
theorem dX7_fault_11 : decode cX7_fault 11 = .ok (.ireturn, 1) := by decide +kernel
theorem dX7_fault_12 : decode cX7_fault 12 = .ok (.aload_n 0, 1) := by decide +kernel
theorem dX7_fault_13 : decode cX7_fault 13 = .ok (.getfield 7, 3) := by decide +kernel
theorem dX7_fault_16 : decode cX7_fault 16 = .ok (.aload_n 0, 1) := by decide +kernel
theorem dX7_fault_17 : decode cX7_fault 17 = .ok (.getfield 16, 3) := by decide +kernel
theorem dX7_fault_20 : decode cX7_fault 20 = .ok (.invokestatic 191, 3) := by decide +kernel
theorem dX7_fault_23 : decode cX7_fault 23 = .ok (.aload_n 0, 1) := by decide +kernel
theorem dX7_fault_24 : decode cX7_fault 24 = .ok (.invokevirtual 195, 3) := by decide +kernel
theorem dX7_fault_27 : decode cX7_fault 27 = .ok (.istore_n 2, 1) := by decide +kernel
theorem dX7_fault_28 : decode cX7_fault 28 = .ok (.aload_n 0, 1) := by decide +kernel
theorem dX7_fault_29 : decode cX7_fault 29 = .ok (.getfield 16, 3) := by decide +kernel
theorem dX7_fault_32 : decode cX7_fault 32 = .ok (.aload_n 0, 1) := by decide +kernel
theorem dX7_fault_33 : decode cX7_fault 33 = .ok (.getfield 7, 3) := by decide +kernel
theorem dX7_fault_36 : decode cX7_fault 36 = .ok (.invokestatic 191, 3) := by decide +kernel
theorem dX7_fault_39 : decode cX7_fault 39 = .ok (.iload_n 2, 1) := by decide +kernel
theorem dX7_fault_40 : decode cX7_fault 40 = .ok (.ifCond .eq 8, 3) := by decide +kernel
theorem dX7_fault_43 : decode cX7_fault 43 = .ok (.ldc 50, 2) := by decide +kernel
theorem dX7_fault_45 : decode cX7_fault 45 = .ok (.goto 30, 3) := by decide +kernel
theorem dX7_fault_48 : decode cX7_fault 48 = .ok (.iload_n 1, 1) := by decide +kernel
theorem dX7_fault_49 : decode cX7_fault 49 = .ok (.ifCond .ne 10, 3) := by decide +kernel
theorem dX7_fault_52 : decode cX7_fault 52 = .ok (.aload_n 0, 1) := by decide +kernel
theorem dX7_fault_53 : decode cX7_fault 53 = .ok (.getfield 172, 3) := by decide +kernel
theorem dX7_fault_56 : decode cX7_fault 56 = .ok (.goto 19, 3) := by decide +kernel
theorem dX7_fault_59 : decode cX7_fault 59 = .ok (.iload_n 1, 1) := by decide +kernel
theorem dX7_fault_60 : decode cX7_fault 60 = .ok (.iconst 1, 1) := by decide +kernel
theorem dX7_fault_61 : decode cX7_fault 61 = .ok (.if_icmp .ne 10, 3) := by decide +kernel
theorem dX7_fault_64 : decode cX7_fault 64 = .ok (.aload_n 0, 1) := by decide +kernel
theorem dX7_fault_65 : decode cX7_fault 65 = .ok (.getfield 185, 3) := by decide +kernel
theorem dX7_fault_68 : decode cX7_fault 68 = .ok (.goto 7, 3) := by decide +kernel
theorem dX7_fault_71 : decode cX7_fault 71 = .ok (.aload_n 0, 1) := by decide +kernel
theorem dX7_fault_72 : decode cX7_fault 72 = .ok (.getfield 188, 3) := by decide +kernel
theorem dX7_fault_75 : decode cX7_fault 75 = .ok (.ireturn, 1) := by decide +kernel
set_option maxRecDepth 20000 in
theorem ggX7_play_X7_copies : GoodIn wsX7_play wsX7_copies := goodIn_r _ [9] (by decide +kernel) (by decide +kernel)
set_option maxRecDepth 20000 in
theorem gX7_play_X7_copies : GoodIn wsX7_play (va_wsS RX7 191 yX7_copies wsX7_copies) := goodIn_app (goodIn_of _ (by decide +kernel)) ggX7_play_X7_copies
set_option maxRecDepth 20000 in
theorem ggX7_play_X7_plays : GoodIn wsX7_play wsX7_plays := goodIn_r _ [13, 14, 15, 16, 4, 17, 18, 19, 20, 21, 22, 8, 23, 24, 25, 26, 27, 28, 29, 30, 31, 32, 33, 34, 35, 36, 37, 38, 39, 40, 41, 42, 43, 44, 45, 46, 47, 48, 49, 50, 1, 51, 52, 53, 54, 55, 56, 57, 58, 59, 60, 61, 62, 63, 64, 65, 66, 67, 68, 69, 70, 71, 72, 73, 74, 3, 75, 76, 77, 78, 79, 80, 81, 82, 83, 84, 85, 86, 87, 88, 89, 90, 91, 92, 93, 94, 95, 96, 97, 98, 99, 100, 101, 102, 103, 104, 105, 106, 107, 108, 109, 110, 111, 112, 113, 114, 115, 116, 117, 118, 119, 120, 121, 122, 123, 124, 125, 126, 127, 128, 129, 130, 131, 132, 133, 134, 135, 136, 137, 138, 139, 140, 141, 142, 143, 144, 145, 146] (by decide +kernel) (by decide +kernel)
set_option maxRecDepth 20000 in
theorem gX7_play_X7_plays : GoodIn wsX7_play (wsV RX7 195 RX7 yX7_plays wsX7_plays) := goodIn_app (goodIn_of _ (by decide +kernel)) ggX7_play_X7_plays
set_option maxRecDepth 20000 in
theorem ggX7_play_X7_changes : GoodIn wsX7_play wsX7_changes := goodIn_r _ [55, 14, 56, 57, 1, 129, 130, 131, 132, 133, 134, 135, 136, 137, 138, 139, 140, 141, 142, 143, 144, 145, 146] (by decide +kernel) (by decide +kernel)
set_option maxRecDepth 20000 in
theorem gX7_play_X7_changes : GoodIn wsX7_play (wsV RX7 89 RX7 yX7_changes wsX7_changes) := goodIn_app (goodIn_of _ (by decide +kernel)) ggX7_play_X7_changes
theorem dX7_play_0 : decode cX7_play 0 = .ok (.aload_n 0, 1) := by decide +kernel
theorem dX7_play_1 : decode cX7_play 1 = .ok (.getfield 7, 3) := by decide +kernel
theorem dX7_play_4 : decode cX7_play 4 = .ok (.aload_n 0, 1) := by decide +kernel
theorem dX7_play_5 : decode cX7_play 5 = .ok (.getfield 16, 3) := by decide +kernel
theorem dX7_play_8 : decode cX7_play 8 = .ok (.invokestatic 191, 3) := by decide +kernel
theorem dX7_play_11 : decode cX7_play 11 = .ok (.aload_n 0, 1) := by decide +kernel
theorem dX7_play_12 : decode cX7_play 12 = .ok (.invokevirtual 195, 3) := by decide +kernel
theorem dX7_play_15 : decode cX7_play 15 = .ok (.istore_n 1, 1) := by decide +kernel
theorem dX7_play_16 : decode cX7_play 16 = .ok (.aload_n 0, 1) := by decide +kernel
theorem dX7_play_17 : decode cX7_play 17 = .ok (.getfield 16, 3) := by decide +kernel
theorem dX7_play_20 : decode cX7_play 20 = .ok (.aload_n 0, 1) := by decide +kernel
theorem dX7_play_21 : decode cX7_play 21 = .ok (.getfield 7, 3) := by decide +kernel
theorem dX7_play_24 : decode cX7_play 24 = .ok (.invokestatic 191, 3) := by decide +kernel
theorem dX7_play_27 : decode cX7_play 27 = .ok (.iload_n 1, 1) := by decide +kernel
theorem dX7_play_28 : decode cX7_play 28 = .ok (.ifCond .ne 6, 3) := by decide +kernel
theorem dX7_play_31 : decode cX7_play 31 = .ok (.ldc 97, 2) := by decide +kernel
theorem dX7_play_33 : decode cX7_play 33 = .ok (.ireturn, 1) := by decide +kernel
theorem dX7_play_34 : decode cX7_play 34 = .ok (.aload_n 0, 1) := by decide +kernel
theorem dX7_play_35 : decode cX7_play 35 = .ok (.invokevirtual 89, 3) := by decide +kernel
theorem dX7_play_38 : decode cX7_play 38 = .ok (.aload_n 0, 1) := by decide +kernel
theorem dX7_play_39 : decode cX7_play 39 = .ok (.invokevirtual 195, 3) := by decide +kernel
theorem dX7_play_42 : decode cX7_play 42 = .ok (.ifCond .eq 10, 3) := by decide +kernel
theorem dX7_play_45 : decode cX7_play 45 = .ok (.aload_n 0, 1) := by decide +kernel
theorem dX7_play_46 : decode cX7_play 46 = .ok (.getfield 175, 3) := by decide +kernel
theorem dX7_play_49 : decode cX7_play 49 = .ok (.goto 5, 3) := by decide +kernel
theorem dX7_play_52 : decode cX7_play 52 = .ok (.ldc 50, 2) := by decide +kernel
theorem dX7_play_54 : decode cX7_play 54 = .ok (.ireturn, 1) := by decide +kernel
theorem dJ6_bitCount_0f7a4_0 : decode cJ6_bitCount_0f7a4 0 = .ok (.iload_n 0, 1) := by decide +kernel
theorem dJ6_bitCount_0f7a4_1 : decode cJ6_bitCount_0f7a4 1 = .ok (.iload_n 0, 1) := by decide +kernel
theorem dJ6_bitCount_0f7a4_2 : decode cJ6_bitCount_0f7a4 2 = .ok (.iconst 1, 1) := by decide +kernel
theorem dJ6_bitCount_0f7a4_3 : decode cJ6_bitCount_0f7a4 3 = .ok (.iushr, 1) := by decide +kernel
theorem dJ6_bitCount_0f7a4_4 : decode cJ6_bitCount_0f7a4 4 = .ok (.ldc_w 265, 3) := by decide +kernel
theorem dJ6_bitCount_0f7a4_7 : decode cJ6_bitCount_0f7a4 7 = .ok (.iand, 1) := by decide +kernel
theorem dJ6_bitCount_0f7a4_8 : decode cJ6_bitCount_0f7a4 8 = .ok (.isub, 1) := by decide +kernel
theorem dJ6_bitCount_0f7a4_9 : decode cJ6_bitCount_0f7a4 9 = .ok (.istore_n 0, 1) := by decide +kernel
theorem dJ6_bitCount_0f7a4_10 : decode cJ6_bitCount_0f7a4 10 = .ok (.iload_n 0, 1) := by decide +kernel
theorem dJ6_bitCount_0f7a4_11 : decode cJ6_bitCount_0f7a4 11 = .ok (.ldc_w 266, 3) := by decide +kernel
theorem dJ6_bitCount_0f7a4_14 : decode cJ6_bitCount_0f7a4 14 = .ok (.iand, 1) := by decide +kernel
theorem dJ6_bitCount_0f7a4_15 : decode cJ6_bitCount_0f7a4 15 = .ok (.iload_n 0, 1) := by decide +kernel
theorem dJ6_bitCount_0f7a4_16 : decode cJ6_bitCount_0f7a4 16 = .ok (.iconst 2, 1) := by decide +kernel
theorem dJ6_bitCount_0f7a4_17 : decode cJ6_bitCount_0f7a4 17 = .ok (.iushr, 1) := by decide +kernel
theorem dJ6_bitCount_0f7a4_18 : decode cJ6_bitCount_0f7a4 18 = .ok (.ldc_w 266, 3) := by decide +kernel
theorem dJ6_bitCount_0f7a4_21 : decode cJ6_bitCount_0f7a4 21 = .ok (.iand, 1) := by decide +kernel
theorem dJ6_bitCount_0f7a4_22 : decode cJ6_bitCount_0f7a4 22 = .ok (.iadd, 1) := by decide +kernel
theorem dJ6_bitCount_0f7a4_23 : decode cJ6_bitCount_0f7a4 23 = .ok (.istore_n 0, 1) := by decide +kernel
theorem dJ6_bitCount_0f7a4_24 : decode cJ6_bitCount_0f7a4 24 = .ok (.iload_n 0, 1) := by decide +kernel
theorem dJ6_bitCount_0f7a4_25 : decode cJ6_bitCount_0f7a4 25 = .ok (.iload_n 0, 1) := by decide +kernel
theorem dJ6_bitCount_0f7a4_26 : decode cJ6_bitCount_0f7a4 26 = .ok (.iconst 4, 1) := by decide +kernel
theorem dJ6_bitCount_0f7a4_27 : decode cJ6_bitCount_0f7a4 27 = .ok (.iushr, 1) := by decide +kernel
theorem dJ6_bitCount_0f7a4_28 : decode cJ6_bitCount_0f7a4 28 = .ok (.iadd, 1) := by decide +kernel
theorem dJ6_bitCount_0f7a4_29 : decode cJ6_bitCount_0f7a4 29 = .ok (.ldc_w 267, 3) := by decide +kernel
theorem dJ6_bitCount_0f7a4_32 : decode cJ6_bitCount_0f7a4 32 = .ok (.iand, 1) := by decide +kernel
theorem dJ6_bitCount_0f7a4_33 : decode cJ6_bitCount_0f7a4 33 = .ok (.istore_n 0, 1) := by decide +kernel
theorem dJ6_bitCount_0f7a4_34 : decode cJ6_bitCount_0f7a4 34 = .ok (.iload_n 0, 1) := by decide +kernel
theorem dJ6_bitCount_0f7a4_35 : decode cJ6_bitCount_0f7a4 35 = .ok (.iload_n 0, 1) := by decide +kernel
theorem dJ6_bitCount_0f7a4_36 : decode cJ6_bitCount_0f7a4 36 = .ok (.bipush 8, 2) := by decide +kernel
theorem dJ6_bitCount_0f7a4_38 : decode cJ6_bitCount_0f7a4 38 = .ok (.iushr, 1) := by decide +kernel
theorem dJ6_bitCount_0f7a4_39 : decode cJ6_bitCount_0f7a4 39 = .ok (.iadd, 1) := by decide +kernel
theorem dJ6_bitCount_0f7a4_40 : decode cJ6_bitCount_0f7a4 40 = .ok (.istore_n 0, 1) := by decide +kernel
theorem dJ6_bitCount_0f7a4_41 : decode cJ6_bitCount_0f7a4 41 = .ok (.iload_n 0, 1) := by decide +kernel
theorem dJ6_bitCount_0f7a4_42 : decode cJ6_bitCount_0f7a4 42 = .ok (.iload_n 0, 1) := by decide +kernel
theorem dJ6_bitCount_0f7a4_43 : decode cJ6_bitCount_0f7a4 43 = .ok (.bipush 16, 2) := by decide +kernel
theorem dJ6_bitCount_0f7a4_45 : decode cJ6_bitCount_0f7a4 45 = .ok (.iushr, 1) := by decide +kernel
theorem dJ6_bitCount_0f7a4_46 : decode cJ6_bitCount_0f7a4 46 = .ok (.iadd, 1) := by decide +kernel
theorem dJ6_bitCount_0f7a4_47 : decode cJ6_bitCount_0f7a4 47 = .ok (.istore_n 0, 1) := by decide +kernel
theorem dJ6_bitCount_0f7a4_48 : decode cJ6_bitCount_0f7a4 48 = .ok (.iload_n 0, 1) := by decide +kernel
theorem dJ6_bitCount_0f7a4_49 : decode cJ6_bitCount_0f7a4 49 = .ok (.bipush 63, 2) := by decide +kernel
theorem dJ6_bitCount_0f7a4_51 : decode cJ6_bitCount_0f7a4 51 = .ok (.iand, 1) := by decide +kernel
theorem dJ6_bitCount_0f7a4_52 : decode cJ6_bitCount_0f7a4 52 = .ok (.ireturn, 1) := by decide +kernel
theorem dJ9_abs_0f7a4_0 : decode cJ9_abs_0f7a4 0 = .ok (.iload_n 0, 1) := by decide +kernel
theorem dJ9_abs_0f7a4_1 : decode cJ9_abs_0f7a4 1 = .ok (.ifCond .ge 8, 3) := by decide +kernel
theorem dJ9_abs_0f7a4_4 : decode cJ9_abs_0f7a4 4 = .ok (.iload_n 0, 1) := by decide +kernel
theorem dJ9_abs_0f7a4_5 : decode cJ9_abs_0f7a4 5 = .ok (.ineg, 1) := by decide +kernel
theorem dJ9_abs_0f7a4_6 : decode cJ9_abs_0f7a4 6 = .ok (.goto 4, 3) := by decide +kernel
theorem dJ9_abs_0f7a4_9 : decode cJ9_abs_0f7a4 9 = .ok (.iload_n 0, 1) := by decide +kernel
theorem dJ9_abs_0f7a4_10 : decode cJ9_abs_0f7a4 10 = .ok (.ireturn, 1) := by decide +kernel
theorem dJ9_max_7cf53_0 : decode cJ9_max_7cf53 0 = .ok (.iload_n 0, 1) := by decide +kernel
theorem dJ9_max_7cf53_1 : decode cJ9_max_7cf53 1 = .ok (.iload_n 1, 1) := by decide +kernel
theorem dJ9_max_7cf53_2 : decode cJ9_max_7cf53 2 = .ok (.if_icmp .lt 7, 3) := by decide +kernel
theorem dJ9_max_7cf53_5 : decode cJ9_max_7cf53 5 = .ok (.iload_n 0, 1) := by decide +kernel
theorem dJ9_max_7cf53_6 : decode cJ9_max_7cf53 6 = .ok (.goto 4, 3) := by decide +kernel
theorem dJ9_max_7cf53_9 : decode cJ9_max_7cf53 9 = .ok (.iload_n 1, 1) := by decide +kernel
theorem dJ9_max_7cf53_10 : decode cJ9_max_7cf53 10 = .ok (.ireturn, 1) := by decide +kernel
theorem dJ9_min_7cf53_0 : decode cJ9_min_7cf53 0 = .ok (.iload_n 0, 1) := by decide +kernel
theorem dJ9_min_7cf53_1 : decode cJ9_min_7cf53 1 = .ok (.iload_n 1, 1) := by decide +kernel
theorem dJ9_min_7cf53_2 : decode cJ9_min_7cf53 2 = .ok (.if_icmp .gt 7, 3) := by decide +kernel
theorem dJ9_min_7cf53_5 : decode cJ9_min_7cf53 5 = .ok (.iload_n 0, 1) := by decide +kernel
theorem dJ9_min_7cf53_6 : decode cJ9_min_7cf53 6 = .ok (.goto 4, 3) := by decide +kernel
theorem dJ9_min_7cf53_9 : decode cJ9_min_7cf53 9 = .ok (.iload_n 1, 1) := by decide +kernel
theorem dJ9_min_7cf53_10 : decode cJ9_min_7cf53 10 = .ok (.ireturn, 1) := by decide +kernel
set_option maxRecDepth 20000 in
theorem ggL_law_X6_init : GoodIn wsL_law wsX6_init := goodIn_r _ [8, 9, 10, 11, 12, 13, 14, 15, 16, 17, 18, 19, 20, 21, 22, 23, 24, 25, 26, 27, 28, 29, 30, 31, 32, 33, 34, 35, 36, 37, 38, 39, 40, 41, 42, 43, 44, 45, 46, 47, 48, 49, 50, 51, 52, 53, 54, 55, 56, 57, 58, 59, 60, 61, 62, 63, 64, 65, 66, 67, 68, 69, 70, 71, 72, 73, 74, 75, 76, 77, 78, 79, 80, 81, 82, 83, 84, 85, 86, 87, 88, 89, 90, 91, 92, 93, 94, 95, 96, 97, 98, 99, 100, 2, 101, 102, 103, 104, 105, 106, 107, 108, 109, 110, 111, 112, 113, 114, 115, 116, 800, 801, 802, 803, 804, 805, 806, 807, 808, 809, 774, 775, 776, 777, 778, 779, 780, 781, 810, 811, 812, 813, 814, 815, 816, 817, 818, 819, 820, 821, 822, 823, 824, 825, 826, 827, 828, 829, 830] (by decide +kernel) (by decide +kernel)
set_option maxRecDepth 20000 in
theorem gL_law_X6_init : GoodIn wsL_law (wsX6_init) := ggL_law_X6_init
set_option maxRecDepth 20000 in
theorem ggL_law_X7_init : GoodIn wsL_law wsX7_init := goodIn_r _ [119, 120, 10, 11, 33, 121, 122, 123, 124, 125, 126, 35, 127, 128, 129, 130, 131, 132, 5, 133, 134, 782, 783, 784, 785, 786, 787, 788, 789, 790, 791, 792, 793, 794, 795, 796, 797, 798, 799] (by decide +kernel) (by decide +kernel)
set_option maxRecDepth 20000 in
theorem gL_law_X7_init : GoodIn wsL_law (wsX7_init) := ggL_law_X7_init
set_option maxRecDepth 20000 in
theorem ggL_law_X6_begin : GoodIn wsL_law wsX6_begin := goodIn_r _ [138, 19, 18, 139, 140, 141, 17, 142, 45, 49, 53, 92, 93, 94, 143, 144, 145, 44, 146, 60, 61, 62, 63, 64, 65, 66, 67, 147, 148, 149, 52, 150, 76, 151, 152, 153, 48, 154, 82, 81, 155, 156, 157, 158, 159, 160, 161, 2, 162, 163, 164, 165, 166, 88, 89, 90, 91, 95, 96, 97, 98, 99, 85, 86, 87, 100, 101, 102, 103, 74, 104, 105, 73, 75, 106, 107, 108, 109, 110, 111, 167, 168, 169, 170, 23, 22, 21, 20, 24, 774, 775, 776, 777, 778, 779, 780, 781, 803, 804, 805, 806, 807, 808, 809, 820, 821, 822, 823, 824, 825, 826, 827, 830, 828, 829] (by decide +kernel) (by decide +kernel)
set_option maxRecDepth 20000 in
theorem gL_law_X6_begin : GoodIn wsL_law (wsV RL 13 RX6 yX6_begin wsX6_begin) := goodIn_app (goodIn_of _ (by decide +kernel)) ggL_law_X6_begin
set_option maxRecDepth 20000 in
theorem ggL_law_X7_begin : GoodIn wsL_law wsX7_begin := goodIn_r _ [174, 175, 121, 176, 177, 5, 178, 179, 180, 181, 182, 183, 184, 122, 130, 131, 132, 133, 134, 782, 783, 784, 785, 786, 787, 788, 789, 790, 791, 792, 793, 794, 795, 796, 797, 798, 799] (by decide +kernel) (by decide +kernel)
set_option maxRecDepth 20000 in
theorem gL_law_X7_begin : GoodIn wsL_law (wsV RL 17 RX7 yX7_begin wsX7_begin) := goodIn_app (goodIn_of _ (by decide +kernel)) ggL_law_X7_begin
set_option maxRecDepth 20000 in
theorem ggL_law_X6_weigh : GoodIn wsL_law wsX6_weigh := goodIn_r _ [188, 19, 18, 139, 140, 141, 17, 142, 45, 49, 53, 92, 93, 94, 143, 144, 145, 44, 146, 60, 61, 62, 63, 64, 65, 66, 67, 147, 148, 149, 52, 150, 76, 151, 152, 153, 48, 154, 82, 81, 155, 189, 190, 191, 192, 193, 160, 194, 195, 196, 197, 198, 199, 200, 201, 202, 161, 2, 162, 203, 204, 205, 206, 207, 208, 209, 210, 211, 212, 213, 214, 215, 216, 167, 168, 169, 170, 23, 22, 21, 20, 24, 102, 103, 74, 104, 774, 775, 776, 777, 778, 779, 780, 781, 803, 804, 805, 806, 807, 808, 809, 820, 821, 822, 823, 824, 825, 826, 827, 830, 828, 829] (by decide +kernel) (by decide +kernel)
set_option maxRecDepth 20000 in
theorem gL_law_X6_weigh : GoodIn wsL_law (wsV RL 18 RX6 yX6_weigh wsX6_weigh) := goodIn_app (goodIn_of _ (by decide +kernel)) ggL_law_X6_weigh
set_option maxRecDepth 20000 in
theorem ggL_law_X7_weigh : GoodIn wsL_law wsX7_weigh := goodIn_r _ [220, 221, 175, 121, 222, 223, 224, 225, 5, 226, 176, 177, 178, 227, 228, 229, 230, 179, 180, 181, 182, 183, 184, 122, 231, 232, 233, 234, 235, 236, 237, 782, 783, 784, 785, 786, 787, 788, 789, 790, 791, 792, 793, 794, 795, 796, 797, 798, 799] (by decide +kernel) (by decide +kernel)
set_option maxRecDepth 20000 in
theorem gL_law_X7_weigh : GoodIn wsL_law (wsV RL 22 RX7 yX7_weigh wsX7_weigh) := goodIn_app (goodIn_of _ (by decide +kernel)) ggL_law_X7_weigh
set_option maxRecDepth 20000 in
theorem ggL_law_X6_move : GoodIn wsL_law wsX6_move := goodIn_r _ [241, 19, 18, 139, 140, 141, 17, 142, 45, 49, 53, 92, 93, 94, 143, 144, 145, 44, 146, 60, 61, 62, 63, 64, 65, 66, 67, 147, 148, 149, 52, 150, 76, 151, 152, 153, 48, 154, 82, 81, 155, 242, 243, 244, 245, 160, 246, 161, 2, 162, 163, 164, 165, 166, 247, 248, 249, 250, 251, 252, 253, 254, 99, 85, 86, 87, 199, 200, 201, 202, 255, 256, 257, 258, 259, 260, 261, 262, 263, 264, 265, 100, 101, 102, 103, 74, 104, 105, 73, 75, 266, 267, 268, 269, 270, 167, 168, 169, 170, 23, 22, 21, 20, 24, 774, 775, 776, 777, 778, 779, 780, 781, 803, 804, 805, 806, 807, 808, 809, 820, 821, 822, 823, 824, 825, 826, 827, 830, 828, 829] (by decide +kernel) (by decide +kernel)
set_option maxRecDepth 20000 in
theorem gL_law_X6_move : GoodIn wsL_law (wsV RL 23 RX6 yX6_move wsX6_move) := goodIn_app (goodIn_of _ (by decide +kernel)) ggL_law_X6_move
set_option maxRecDepth 20000 in
theorem ggL_law_X7_move : GoodIn wsL_law wsX7_move := goodIn_r _ [274, 175, 121, 275, 176, 177, 5, 178, 179, 180, 181, 182, 183, 184, 122, 276, 277, 278, 279, 280, 281, 282, 283, 284, 285, 286, 287, 288, 782, 783, 784, 785, 786, 787, 788, 789, 790, 791, 792, 793, 794, 795, 796, 797, 798, 799] (by decide +kernel) (by decide +kernel)
set_option maxRecDepth 20000 in
theorem gL_law_X7_move : GoodIn wsL_law (wsV RL 26 RX7 yX7_move wsX7_move) := goodIn_app (goodIn_of _ (by decide +kernel)) ggL_law_X7_move
set_option maxRecDepth 20000 in
theorem ggL_law_X6_observe : GoodIn wsL_law wsX6_observe := goodIn_r _ [292, 19, 18, 139, 140, 141, 17, 142, 45, 49, 53, 92, 93, 94, 143, 144, 145, 44, 146, 60, 61, 62, 63, 64, 65, 66, 67, 147, 148, 149, 52, 150, 76, 151, 152, 153, 48, 154, 82, 81, 155, 293, 294, 295, 296, 160, 297, 298, 74, 299, 300, 73, 75, 194, 193, 246, 161, 2, 162, 199, 200, 201, 202, 247, 248, 249, 250, 258, 259, 260, 261, 262, 263, 264, 265, 213, 214, 215, 216, 203, 204, 205, 206, 207, 208, 209, 210, 211, 212, 301, 302, 303, 304, 111, 305, 306, 307, 308, 309, 310, 311, 312, 313, 54, 163, 164, 165, 166, 314, 315, 316, 14, 317, 37, 318, 319, 320, 321, 322, 34, 323, 324, 325, 326, 327, 328, 329, 330, 331, 332, 333, 334, 255, 256, 257, 335, 336, 337, 338, 36, 339, 340, 341, 342, 343, 344, 345, 346, 347, 99, 85, 86, 87, 348, 349, 350, 351, 266, 267, 268, 269, 270, 352, 353, 354, 355, 106, 107, 108, 109, 110, 103, 104, 356, 357, 358, 359, 360, 361, 362, 363, 364, 365, 366, 367, 368, 369, 370, 167, 168, 169, 170, 23, 22, 21, 20, 24, 102, 774, 775, 776, 777, 778, 779, 780, 781, 803, 804, 805, 806, 807, 808, 809, 820, 821, 822, 823, 824, 825, 826, 827, 830, 828, 829, 800, 801, 802] (by decide +kernel) (by decide +kernel)
set_option maxRecDepth 20000 in
theorem gL_law_X6_observe : GoodIn wsL_law (wsV RL 27 RX6 yX6_observe wsX6_observe) := goodIn_app (goodIn_of _ (by decide +kernel)) ggL_law_X6_observe
set_option maxRecDepth 20000 in
theorem ggL_law_X7_observe : GoodIn wsL_law wsX7_observe := goodIn_r _ [374, 175, 222, 221, 121, 275, 128, 176, 177, 5, 178, 375, 376, 377, 378, 379, 380, 381, 382, 280, 281, 282, 283, 231, 232, 233, 234, 235, 236, 237, 383, 384, 385, 386, 227, 228, 229, 230, 179, 180, 181, 182, 183, 184, 122, 387, 388, 389, 390, 125, 391, 392, 393, 394, 395, 396, 397, 398, 126, 127, 399, 400, 401, 402, 403, 404, 284, 285, 286, 287, 288, 276, 277, 278, 279, 782, 783, 784, 785, 786, 787, 788, 789, 790, 791, 792, 793, 794, 795, 796, 797, 798, 799] (by decide +kernel) (by decide +kernel)
set_option maxRecDepth 20000 in
theorem gL_law_X7_observe : GoodIn wsL_law (wsV RL 30 RX7 yX7_observe wsX7_observe) := goodIn_app (goodIn_of _ (by decide +kernel)) ggL_law_X7_observe
set_option maxRecDepth 20000 in
theorem ggL_law_X6_resample : GoodIn wsL_law wsX6_resample := goodIn_r _ [408, 19, 18, 139, 140, 141, 17, 142, 45, 49, 53, 92, 93, 94, 143, 144, 145, 44, 146, 60, 61, 62, 63, 64, 65, 66, 67, 147, 148, 149, 52, 150, 76, 151, 152, 153, 48, 154, 82, 81, 155, 409, 311, 312, 313, 246, 54, 163, 164, 165, 166, 309, 263, 264, 265, 314, 315, 316, 14, 317, 37, 318, 319, 320, 321, 322, 34, 323, 324, 325, 326, 327, 328, 329, 330, 331, 332, 333, 334, 255, 2, 256, 257, 335, 336, 337, 338, 36, 339, 214, 215, 216, 340, 341, 342, 343, 247, 248, 249, 250, 344, 345, 346, 347, 99, 85, 86, 87, 199, 200, 201, 202, 348, 349, 350, 351, 258, 259, 260, 261, 262, 266, 267, 268, 269, 270, 352, 353, 354, 355, 106, 107, 108, 109, 110, 103, 74, 104, 111, 73, 75, 356, 357, 358, 359, 360, 361, 362, 363, 364, 365, 366, 367, 368, 369, 370, 167, 168, 169, 170, 23, 22, 21, 20, 24, 102, 774, 775, 776, 777, 778, 779, 780, 781, 803, 804, 805, 806, 807, 808, 809, 820, 821, 822, 823, 824, 825, 826, 827, 830, 828, 829, 800, 801, 802] (by decide +kernel) (by decide +kernel)
set_option maxRecDepth 20000 in
theorem gL_law_X6_resample : GoodIn wsL_law (wsV RL 31 RX6 yX6_resample wsX6_resample) := goodIn_app (goodIn_of _ (by decide +kernel)) ggL_law_X6_resample
set_option maxRecDepth 20000 in
theorem ggL_law_X7_resample : GoodIn wsL_law wsX7_resample := goodIn_r _ [413, 121, 275, 179, 180, 181, 5, 182, 183, 184, 122, 387, 388, 389, 390, 125, 391, 392, 393, 394, 395, 396, 397, 398, 126, 127, 399, 227, 228, 229, 230, 400, 401, 402, 403, 404, 284, 285, 286, 287, 288, 276, 277, 278, 279, 280, 281, 282, 283, 379, 380, 381, 382, 414, 415, 416, 417, 782, 783, 784, 785, 786, 787, 788, 789, 790, 791, 792, 793, 794, 795, 796, 797, 798, 799] (by decide +kernel) (by decide +kernel)
set_option maxRecDepth 20000 in
theorem gL_law_X7_resample : GoodIn wsL_law (wsV RL 35 RX7 yX7_resample wsX7_resample) := goodIn_app (goodIn_of _ (by decide +kernel)) ggL_law_X7_resample
set_option maxRecDepth 20000 in
theorem ggL_law_X6_set : GoodIn wsL_law wsX6_set := goodIn_r _ [421, 19, 18, 139, 140, 141, 17, 142, 45, 49, 53, 92, 93, 94, 143, 144, 145, 44, 146, 60, 61, 62, 63, 64, 65, 66, 67, 147, 148, 149, 52, 150, 76, 151, 152, 153, 48, 154, 82, 81, 155, 422, 423, 424, 425, 160, 161, 2, 162, 426, 427, 428, 309, 263, 264, 265, 84, 85, 86, 87, 167, 168, 169, 170, 23, 22, 21, 20, 24, 102, 103, 74, 104, 774, 775, 776, 777, 778, 779, 780, 781, 803, 804, 805, 806, 807, 808, 809, 820, 821, 822, 823, 824, 825, 826, 827, 830, 828, 829] (by decide +kernel) (by decide +kernel)
set_option maxRecDepth 20000 in
theorem gL_law_X6_set : GoodIn wsL_law (wsV RL 36 RX6 yX6_set wsX6_set) := goodIn_app (goodIn_of _ (by decide +kernel)) ggL_law_X6_set
set_option maxRecDepth 20000 in
theorem ggL_law_X7_set : GoodIn wsL_law wsX7_set := goodIn_r _ [432, 175, 121, 176, 177, 5, 178, 179, 180, 181, 182, 183, 184, 122, 782, 783, 784, 785, 786, 787, 788, 789, 790, 791, 792, 793, 794, 795, 796, 797, 798, 799] (by decide +kernel) (by decide +kernel)
set_option maxRecDepth 20000 in
theorem gL_law_X7_set : GoodIn wsL_law (wsV RL 39 RX7 yX7_set wsX7_set) := goodIn_app (goodIn_of _ (by decide +kernel)) ggL_law_X7_set
set_option maxRecDepth 20000 in
theorem ggL_law_X6_particleOf : GoodIn wsL_law wsX6_particleOf := goodIn_r _ [436, 18, 437, 438, 196, 197, 17, 198, 45, 199, 200, 201, 44, 202, 66, 161, 2, 162, 439, 440, 441, 442, 443, 49, 444, 247, 248, 249, 250, 67, 258, 259, 260, 261, 60, 262, 263, 264, 52, 265, 76, 213, 214, 215, 48, 216, 81, 445, 446, 447, 448, 61, 449, 450, 451, 452, 453, 454, 324, 325, 326, 82, 455, 456, 457, 211, 212, 458, 459, 460, 461, 462, 774, 775, 776, 777, 778, 779, 780, 781, 803, 804, 805, 806, 807, 808, 809, 820, 821, 822, 823, 824, 825, 826, 827, 830, 828, 829] (by decide +kernel) (by decide +kernel)
set_option maxRecDepth 20000 in
theorem gL_law_X6_particleOf : GoodIn wsL_law (wsV RL 40 RX6 yX6_particleOf wsX6_particleOf) := goodIn_app (goodIn_of _ (by decide +kernel)) ggL_law_X6_particleOf
set_option maxRecDepth 20000 in
theorem ggL_law_X7_particleOf : GoodIn wsL_law wsX7_particleOf := goodIn_r _ [466, 175, 121, 223, 224, 225, 5, 226, 379, 380, 381, 382, 280, 281, 282, 283, 467, 468, 469, 470, 227, 228, 229, 230, 471, 472, 473, 474, 475, 476, 477, 782, 783, 784, 785, 786, 787, 788, 789, 790, 791, 792, 793, 794, 795, 796, 797, 798, 799] (by decide +kernel) (by decide +kernel)
set_option maxRecDepth 20000 in
theorem gL_law_X7_particleOf : GoodIn wsL_law (wsV RL 43 RX7 yX7_particleOf wsX7_particleOf) := goodIn_app (goodIn_of _ (by decide +kernel)) ggL_law_X7_particleOf
set_option maxRecDepth 20000 in
theorem ggL_law_X6_generationOf : GoodIn wsL_law wsX6_generationOf := goodIn_r _ [481, 18, 437, 482, 483, 484, 17, 485, 45, 247, 248, 249, 44, 250, 67, 161, 2, 162, 439, 486, 487, 488, 489, 444, 490, 491, 492, 493, 62, 262, 263, 264, 52, 265, 76, 494, 495, 496, 497, 63, 498, 499, 500, 501, 64, 502, 503, 504, 505, 65, 356, 357, 358, 359, 66, 360, 361, 362, 363, 61, 270, 364, 365, 366, 367, 368, 369, 370, 506, 507, 508, 509, 510, 511, 512, 513, 453, 259, 260, 261, 60, 774, 775, 776, 777, 778, 779, 780, 781, 803, 804, 805, 806, 807, 808, 809, 820, 821, 822, 823, 824, 825, 826, 827, 830] (by decide +kernel) (by decide +kernel)
set_option maxRecDepth 20000 in
theorem gL_law_X6_generationOf : GoodIn wsL_law (wsV RL 44 RX6 yX6_generationOf wsX6_generationOf) := goodIn_app (goodIn_of _ (by decide +kernel)) ggL_law_X6_generationOf
set_option maxRecDepth 20000 in
theorem ggL_law_X7_generationOf : GoodIn wsL_law wsX7_generationOf := goodIn_r _ [517, 175, 121, 134, 518, 519, 520, 5, 521, 176, 177, 178, 522, 523, 524, 525, 526, 527, 528, 529, 379, 380, 381, 382, 414, 415, 416, 417, 782, 783, 784, 785, 786, 787, 788, 789, 790, 791, 792, 793, 794, 795, 796, 797, 798, 799] (by decide +kernel) (by decide +kernel)
set_option maxRecDepth 20000 in
theorem gL_law_X7_generationOf : GoodIn wsL_law (wsV RL 47 RX7 yX7_generationOf wsX7_generationOf) := goodIn_app (goodIn_of _ (by decide +kernel)) ggL_law_X7_generationOf
set_option maxRecDepth 20000 in
theorem ggL_law_X6_ancestor : GoodIn wsL_law wsX6_ancestor := goodIn_r _ [533, 18, 437, 438, 196, 197, 17, 198, 45, 199, 200, 201, 44, 202, 66, 161, 2, 162, 482, 483, 484, 485, 247, 248, 249, 250, 67, 439, 534, 535, 536, 537, 538, 361, 362, 363, 61, 270, 262, 263, 264, 52, 265, 76, 258, 259, 260, 261, 60, 774, 775, 776, 777, 778, 779, 780, 781, 803, 804, 805, 806, 807, 808, 809, 820, 821, 822, 823, 824, 825, 826, 827, 830] (by decide +kernel) (by decide +kernel)
set_option maxRecDepth 20000 in
theorem gL_law_X6_ancestor : GoodIn wsL_law (wsV RL 48 RX6 yX6_ancestor wsX6_ancestor) := goodIn_app (goodIn_of _ (by decide +kernel)) ggL_law_X6_ancestor
set_option maxRecDepth 20000 in
theorem ggL_law_X7_ancestor : GoodIn wsL_law wsX7_ancestor := goodIn_r _ [542, 175, 223, 224, 225, 5, 226, 121, 518, 519, 520, 521, 176, 177, 178, 526, 527, 528, 529, 379, 380, 381, 382, 280, 281, 282, 283, 782, 783, 784, 785, 786, 787, 788, 789, 790, 791, 792, 793, 794, 795, 796, 797, 798, 799] (by decide +kernel) (by decide +kernel)
set_option maxRecDepth 20000 in
theorem gL_law_X7_ancestor : GoodIn wsL_law (wsV RL 51 RX7 yX7_ancestor wsX7_ancestor) := goodIn_app (goodIn_of _ (by decide +kernel)) ggL_law_X7_ancestor
set_option maxRecDepth 20000 in
theorem ggL_law_X6_common : GoodIn wsL_law wsX6_common := goodIn_r _ [546, 18, 437, 438, 196, 197, 17, 198, 45, 199, 200, 201, 44, 202, 66, 161, 2, 162, 547, 548, 549, 550, 551, 552, 553, 554, 555, 270, 248, 249, 250, 67, 556, 446, 447, 448, 61, 262, 263, 264, 52, 265, 76, 774, 775, 776, 777, 778, 779, 780, 781, 803, 804, 805, 806, 807, 808, 809, 820, 821, 822, 823, 824, 825, 826, 827, 830] (by decide +kernel) (by decide +kernel)
set_option maxRecDepth 20000 in
theorem gL_law_X6_common : GoodIn wsL_law (wsV RL 52 RX6 yX6_common wsX6_common) := goodIn_app (goodIn_of _ (by decide +kernel)) ggL_law_X6_common
set_option maxRecDepth 20000 in
theorem ggL_law_X7_common : GoodIn wsL_law wsX7_common := goodIn_r _ [560, 175, 223, 224, 225, 5, 226, 121, 561, 562, 563, 564, 134, 379, 380, 381, 382, 526, 527, 528, 529, 782, 783, 784, 785, 786, 787, 788, 789, 790, 791, 792, 793, 794, 795, 796, 797, 798, 799] (by decide +kernel) (by decide +kernel)
set_option maxRecDepth 20000 in
theorem gL_law_X7_common : GoodIn wsL_law (wsV RL 55 RX7 yX7_common wsX7_common) := goodIn_app (goodIn_of _ (by decide +kernel)) ggL_law_X7_common
set_option maxRecDepth 20000 in
theorem ggL_law_X6_root : GoodIn wsL_law wsX6_root := goodIn_r _ [568, 18, 569, 570, 571, 17, 572, 45, 573, 103, 74, 104, 247, 248, 249, 44, 250, 67, 199, 200, 201, 202, 66, 551, 552, 553, 554, 555, 270, 556, 446, 447, 448, 61, 262, 263, 264, 52, 265, 76, 774, 775, 776, 777, 778, 779, 780, 781, 803, 804, 805, 806, 807, 808, 809, 820, 821, 822, 823, 824, 825, 826, 827, 830] (by decide +kernel) (by decide +kernel)
set_option maxRecDepth 20000 in
theorem gL_law_X6_root : GoodIn wsL_law (wsV RL 56 RX6 yX6_root wsX6_root) := goodIn_app (goodIn_of _ (by decide +kernel)) ggL_law_X6_root
set_option maxRecDepth 20000 in
theorem ggL_law_X7_root : GoodIn wsL_law wsX7_root := goodIn_r _ [577, 561, 562, 563, 5, 564, 121, 134, 379, 380, 381, 382, 526, 527, 528, 529, 782, 783, 784, 785, 786, 787, 788, 789, 790, 791, 792, 793, 794, 795, 796, 797, 798, 799] (by decide +kernel) (by decide +kernel)
set_option maxRecDepth 20000 in
theorem gL_law_X7_root : GoodIn wsL_law (wsV RL 59 RX7 yX7_root wsX7_root) := goodIn_app (goodIn_of _ (by decide +kernel)) ggL_law_X7_root
set_option maxRecDepth 20000 in
theorem ggL_law_X6_mean : GoodIn wsL_law wsX6_mean := goodIn_r _ [581, 18, 437, 482, 483, 484, 17, 485, 45, 247, 248, 249, 44, 250, 67, 161, 2, 162, 439, 582, 583, 584, 585, 49, 199, 200, 201, 202, 66, 538, 361, 362, 363, 61, 270, 262, 263, 264, 52, 265, 76, 258, 259, 260, 261, 60, 213, 214, 215, 48, 216, 81, 454, 324, 325, 326, 82, 455, 456, 457, 211, 212, 774, 775, 776, 777, 778, 779, 780, 781, 803, 804, 805, 806, 807, 808, 809, 820, 821, 822, 823, 824, 825, 826, 827, 830, 828, 829] (by decide +kernel) (by decide +kernel)
set_option maxRecDepth 20000 in
theorem gL_law_X6_mean : GoodIn wsL_law (wsV RL 60 RX6 yX6_mean wsX6_mean) := goodIn_app (goodIn_of _ (by decide +kernel)) ggL_law_X6_mean
set_option maxRecDepth 20000 in
theorem ggL_law_X7_mean : GoodIn wsL_law wsX7_mean := goodIn_r _ [589, 175, 121, 518, 519, 520, 5, 521, 176, 177, 178, 526, 527, 528, 529, 379, 380, 381, 382, 280, 281, 282, 283, 227, 228, 229, 230, 471, 472, 473, 782, 783, 784, 785, 786, 787, 788, 789, 790, 791, 792, 793, 794, 795, 796, 797, 798, 799] (by decide +kernel) (by decide +kernel)
set_option maxRecDepth 20000 in
theorem gL_law_X7_mean : GoodIn wsL_law (wsV RL 63 RX7 yX7_mean wsX7_mean) := goodIn_app (goodIn_of _ (by decide +kernel)) ggL_law_X7_mean
set_option maxRecDepth 20000 in
theorem ggL_law_X6_share : GoodIn wsL_law wsX6_share := goodIn_r _ [593, 18, 437, 482, 483, 484, 17, 485, 45, 247, 248, 249, 44, 250, 67, 161, 2, 162, 439, 594, 595, 596, 597, 49, 199, 200, 201, 202, 66, 538, 361, 362, 363, 61, 270, 262, 263, 264, 52, 265, 76, 258, 259, 260, 261, 60, 213, 214, 215, 48, 216, 81, 454, 324, 325, 326, 82, 455, 456, 457, 211, 212, 774, 775, 776, 777, 778, 779, 780, 781, 803, 804, 805, 806, 807, 808, 809, 820, 821, 822, 823, 824, 825, 826, 827, 830, 828, 829] (by decide +kernel) (by decide +kernel)
set_option maxRecDepth 20000 in
theorem gL_law_X6_share : GoodIn wsL_law (wsV RL 64 RX6 yX6_share wsX6_share) := goodIn_app (goodIn_of _ (by decide +kernel)) ggL_law_X6_share
set_option maxRecDepth 20000 in
theorem ggL_law_X7_share : GoodIn wsL_law wsX7_share := goodIn_r _ [601, 175, 121, 518, 519, 520, 5, 521, 176, 177, 178, 526, 527, 528, 529, 379, 380, 381, 382, 280, 281, 282, 283, 227, 228, 229, 230, 471, 472, 473, 782, 783, 784, 785, 786, 787, 788, 789, 790, 791, 792, 793, 794, 795, 796, 797, 798, 799] (by decide +kernel) (by decide +kernel)
set_option maxRecDepth 20000 in
theorem gL_law_X7_share : GoodIn wsL_law (wsV RL 68 RX7 yX7_share wsX7_share) := goodIn_app (goodIn_of _ (by decide +kernel)) ggL_law_X7_share
set_option maxRecDepth 20000 in
theorem ggL_law_X6_would : GoodIn wsL_law wsX6_would := goodIn_r _ [605, 18, 437, 439, 161, 2, 162, 438, 196, 197, 17, 198, 45, 199, 200, 201, 44, 202, 66, 606, 607, 608, 609, 54, 49, 53, 92, 309, 263, 264, 52, 265, 76, 314, 315, 316, 14, 317, 37, 318, 319, 320, 321, 322, 34, 323, 324, 325, 48, 326, 82, 81, 327, 328, 329, 330, 331, 332, 333, 334, 255, 256, 257, 335, 336, 337, 338, 36, 339, 214, 215, 216, 340, 341, 342, 343, 348, 349, 350, 351, 774, 775, 776, 777, 778, 779, 780, 781, 803, 804, 805, 806, 807, 808, 809, 820, 821, 822, 823, 824, 825, 826, 827, 830, 800, 801, 802, 828, 829] (by decide +kernel) (by decide +kernel)
set_option maxRecDepth 20000 in
theorem gL_law_X6_would : GoodIn wsL_law (wsV RL 69 RX6 yX6_would wsX6_would) := goodIn_app (goodIn_of _ (by decide +kernel)) ggL_law_X6_would
set_option maxRecDepth 20000 in
theorem ggL_law_X7_would : GoodIn wsL_law wsX7_would := goodIn_r _ [613, 175, 121, 125, 176, 177, 5, 178, 223, 224, 225, 226, 391, 392, 393, 394, 395, 396, 397, 398, 126, 127, 399, 227, 228, 229, 230, 400, 401, 402, 403, 404, 284, 285, 286, 287, 288, 782, 783, 784, 785, 786, 787, 788, 789, 790, 791, 792, 793, 794, 795, 796, 797, 798, 799] (by decide +kernel) (by decide +kernel)
set_option maxRecDepth 20000 in
theorem gL_law_X7_would : GoodIn wsL_law (wsV RL 72 RX7 yX7_would wsX7_would) := goodIn_app (goodIn_of _ (by decide +kernel)) ggL_law_X7_would
set_option maxRecDepth 20000 in
theorem ggL_law_X6_count : GoodIn wsL_law wsX6_count := goodIn_r _ [617, 24, 28, 18, 618, 619, 620, 27, 621, 622, 623, 624, 625, 17, 626, 45, 49, 92, 93, 94, 53, 160, 199, 200, 201, 44, 202, 66, 163, 164, 165, 166, 67, 454, 324, 325, 48, 326, 82, 81, 305, 306, 307, 308, 627, 628, 629, 630, 247, 248, 249, 250, 506, 507, 508, 509, 510, 511, 512, 513, 453, 259, 260, 261, 60, 262, 263, 264, 52, 265, 76, 309, 774, 775, 776, 777, 778, 779, 780, 781, 810, 811, 812, 813, 814, 815, 816, 817, 818, 819, 803, 804, 805, 806, 807, 808, 809, 820, 821, 822, 823, 824, 825, 826, 827, 828, 829, 830] (by decide +kernel) (by decide +kernel)
set_option maxRecDepth 20000 in
theorem gL_law_X6_count : GoodIn wsL_law (wsV RL 73 RX6 yX6_count wsX6_count) := goodIn_app (goodIn_of _ (by decide +kernel)) ggL_law_X6_count
set_option maxRecDepth 20000 in
theorem ggL_law_X7_count : GoodIn wsL_law wsX7_count := goodIn_r _ [634, 121, 184, 635, 175, 227, 228, 229, 5, 230, 383, 384, 385, 386, 636, 637, 638, 639, 379, 380, 381, 382, 414, 415, 416, 417, 176, 177, 178, 782, 783, 784, 785, 786, 787, 788, 789, 790, 791, 792, 793, 794, 795, 796, 797, 798, 799] (by decide +kernel) (by decide +kernel)
set_option maxRecDepth 20000 in
theorem gL_law_X7_count : GoodIn wsL_law (wsV RL 77 RX7 yX7_count wsX7_count) := goodIn_app (goodIn_of _ (by decide +kernel)) ggL_law_X7_count
set_option maxRecDepth 20000 in
theorem ggL_law_X6_undo : GoodIn wsL_law wsX6_undo := goodIn_r _ [643, 24, 644, 18, 20, 21, 22, 23, 774, 775, 776, 777, 778, 779, 780, 781] (by decide +kernel) (by decide +kernel)
set_option maxRecDepth 20000 in
theorem gL_law_X6_undo : GoodIn wsL_law (wsV RL 78 RX6 yX6_undo wsX6_undo) := goodIn_app (goodIn_of _ (by decide +kernel)) ggL_law_X6_undo
set_option maxRecDepth 20000 in
theorem ggL_law_X7_undo : GoodIn wsL_law wsX7_undo := goodIn_r _ [648, 184, 222, 121, 122, 782, 783, 784, 785, 786, 787, 788, 789, 790, 791, 792, 793, 794, 795, 796, 797, 798, 799] (by decide +kernel) (by decide +kernel)
set_option maxRecDepth 20000 in
theorem gL_law_X7_undo : GoodIn wsL_law (wsV RL 81 RX7 yX7_undo wsX7_undo) := goodIn_app (goodIn_of _ (by decide +kernel)) ggL_law_X7_undo
set_option maxRecDepth 20000 in
theorem ggL_law_X6_type : GoodIn wsL_law wsX6_type := goodIn_r _ [652, 437, 28, 439, 161, 2, 162, 653, 654, 655, 27, 656, 622, 116, 657, 774, 775, 776, 777, 778, 779, 780, 781, 810, 811, 812, 813, 814, 815, 816, 817, 818, 819] (by decide +kernel) (by decide +kernel)
set_option maxRecDepth 20000 in
theorem gL_law_X6_type : GoodIn wsL_law (wsV RL 82 RX6 yX6_type wsX6_type) := goodIn_app (goodIn_of _ (by decide +kernel)) ggL_law_X6_type
set_option maxRecDepth 20000 in
theorem ggL_law_X7_type : GoodIn wsL_law wsX7_type := goodIn_r _ [661, 175, 635, 275, 124, 176, 177, 5, 178, 782, 783, 784, 785, 786, 787, 788, 789, 790, 791, 792, 793, 794, 795, 796, 797, 798, 799] (by decide +kernel) (by decide +kernel)
set_option maxRecDepth 20000 in
theorem gL_law_X7_type : GoodIn wsL_law (wsV RL 85 RX7 yX7_type wsX7_type) := goodIn_app (goodIn_of _ (by decide +kernel)) ggL_law_X7_type
set_option maxRecDepth 20000 in
theorem ggL_law_X6_clearText : GoodIn wsL_law wsX6_clearText := goodIn_r _ [665, 28, 666, 667, 668, 27, 669, 622, 774, 775, 776, 777, 778, 779, 780, 781, 810, 811, 812, 813, 814, 815, 816, 817, 818, 819] (by decide +kernel) (by decide +kernel)
set_option maxRecDepth 20000 in
theorem gL_law_X6_clearText : GoodIn wsL_law (wsV RL 86 RX6 yX6_clearText wsX6_clearText) := goodIn_app (goodIn_of _ (by decide +kernel)) ggL_law_X6_clearText
set_option maxRecDepth 20000 in
theorem ggL_law_X7_clearText : GoodIn wsL_law wsX7_clearText := goodIn_r _ [673, 635, 782, 783, 784, 785, 786, 787, 788, 789, 790, 791, 792, 793, 794, 795, 796, 797, 798, 799] (by decide +kernel) (by decide +kernel)
set_option maxRecDepth 20000 in
theorem gL_law_X7_clearText : GoodIn wsL_law (wsV RL 89 RX7 yX7_clearText wsX7_clearText) := goodIn_app (goodIn_of _ (by decide +kernel)) ggL_law_X7_clearText
set_option maxRecDepth 20000 in
theorem ggL_law_X6_fault : GoodIn wsL_law wsX6_fault := goodIn_r _ [677, 437, 19, 18, 28, 678, 439, 161, 2, 162, 139, 140, 141, 17, 142, 45, 49, 53, 92, 93, 94, 143, 144, 145, 44, 146, 60, 61, 62, 63, 64, 65, 66, 67, 147, 148, 149, 52, 150, 76, 151, 152, 153, 48, 154, 82, 81, 155, 679, 680, 681, 27, 682, 683, 684, 622, 685, 686, 687, 688, 689, 690, 691, 692, 693, 694, 695, 696, 697, 698, 116, 699, 700, 701, 702, 703, 704, 705, 706, 707, 708, 709, 710, 711, 712, 713, 714, 715, 243, 244, 245, 160, 246, 163, 164, 165, 166, 247, 248, 249, 250, 251, 252, 253, 254, 99, 85, 86, 87, 199, 200, 201, 202, 255, 256, 257, 258, 259, 260, 261, 262, 263, 264, 265, 100, 101, 102, 103, 74, 104, 105, 73, 75, 266, 267, 268, 269, 270, 716, 294, 295, 296, 297, 298, 299, 300, 194, 193, 213, 214, 215, 216, 203, 204, 205, 206, 207, 208, 209, 210, 211, 212, 301, 302, 303, 304, 111, 305, 306, 307, 308, 309, 310, 311, 312, 313, 54, 314, 315, 316, 14, 317, 37, 318, 319, 320, 321, 322, 34, 323, 324, 325, 326, 327, 328, 329, 330, 331, 332, 333, 334, 335, 336, 337, 338, 36, 339, 340, 341, 342, 343, 344, 345, 346, 347, 348, 349, 350, 351, 352, 353, 354, 355, 106, 107, 108, 109, 110, 356, 357, 358, 359, 360, 361, 362, 363, 364, 365, 366, 367, 368, 369, 370, 717, 718, 719, 720, 721, 774, 775, 776, 777, 778, 779, 780, 781, 803, 804, 805, 806, 807, 808, 809, 820, 821, 822, 823, 824, 825, 826, 827, 830, 828, 829, 810, 811, 812, 813, 814, 815, 816, 817, 818, 819, 800, 801, 802] (by decide +kernel) (by decide +kernel)
set_option maxRecDepth 20000 in
theorem gL_law_X6_fault : GoodIn wsL_law (wsV RL 90 RX6 yX6_fault wsX6_fault) := goodIn_app (goodIn_of _ (by decide +kernel)) ggL_law_X6_fault
set_option maxRecDepth 20000 in
theorem ggL_law_X7_fault : GoodIn wsL_law wsX7_fault := goodIn_r _ [725, 175, 121, 123, 134, 726, 727, 728, 176, 177, 5, 178, 729, 730, 731, 732, 733, 734, 735, 183, 736, 737, 635, 738, 739, 740, 741, 124, 742, 129, 743, 744, 745, 746, 747, 748, 749, 750, 751, 752, 753, 754, 755, 756, 757, 758, 759, 272, 273, 274, 275, 179, 180, 181, 182, 184, 122, 276, 277, 278, 279, 280, 281, 282, 283, 284, 285, 286, 287, 288, 760, 372, 373, 374, 222, 221, 128, 375, 376, 377, 378, 379, 380, 381, 382, 231, 232, 233, 234, 235, 236, 237, 383, 384, 385, 386, 227, 228, 229, 230, 387, 388, 389, 390, 125, 391, 392, 393, 394, 395, 396, 397, 398, 126, 127, 399, 400, 401, 402, 403, 404, 761, 411, 412, 413, 414, 415, 416, 417, 782, 783, 784, 785, 786, 787, 788, 789, 790, 791, 792, 793, 794, 795, 796, 797, 798, 799] (by decide +kernel) (by decide +kernel)
set_option maxRecDepth 20000 in
theorem gL_law_X7_fault : GoodIn wsL_law (wsV RL 93 RX7 yX7_fault wsX7_fault) := goodIn_app (goodIn_of _ (by decide +kernel)) ggL_law_X7_fault
set_option maxRecDepth 20000 in
theorem ggL_law_X6_play : GoodIn wsL_law wsX6_play := goodIn_r _ [765, 19, 18, 28, 644, 139, 140, 141, 17, 142, 45, 49, 53, 92, 93, 94, 143, 144, 145, 44, 146, 60, 61, 62, 63, 64, 65, 66, 67, 147, 148, 149, 52, 150, 76, 151, 152, 153, 48, 154, 82, 81, 155, 679, 680, 681, 27, 682, 683, 684, 622, 685, 686, 687, 688, 689, 690, 691, 692, 693, 694, 695, 696, 697, 698, 116, 699, 700, 701, 702, 703, 704, 705, 706, 707, 708, 709, 710, 161, 2, 162, 711, 712, 713, 714, 715, 243, 244, 245, 160, 246, 163, 164, 165, 166, 247, 248, 249, 250, 251, 252, 253, 254, 99, 85, 86, 87, 199, 200, 201, 202, 255, 256, 257, 258, 259, 260, 261, 262, 263, 264, 265, 100, 101, 102, 103, 74, 104, 105, 73, 75, 266, 267, 268, 269, 270, 716, 294, 295, 296, 297, 298, 299, 300, 194, 193, 213, 214, 215, 216, 203, 204, 205, 206, 207, 208, 209, 210, 211, 212, 301, 302, 303, 304, 111, 305, 306, 307, 308, 309, 310, 311, 312, 313, 54, 314, 315, 316, 14, 317, 37, 318, 319, 320, 321, 322, 34, 323, 324, 325, 326, 327, 328, 329, 330, 331, 332, 333, 334, 335, 336, 337, 338, 36, 339, 340, 341, 342, 343, 344, 345, 346, 347, 348, 349, 350, 351, 352, 353, 354, 355, 106, 107, 108, 109, 110, 356, 357, 358, 359, 360, 361, 362, 363, 364, 365, 366, 367, 368, 369, 370, 717, 766, 767, 768, 769, 167, 168, 169, 170, 23, 22, 21, 20, 24, 774, 775, 776, 777, 778, 779, 780, 781, 803, 804, 805, 806, 807, 808, 809, 820, 821, 822, 823, 824, 825, 826, 827, 830, 828, 829, 810, 811, 812, 813, 814, 815, 816, 817, 818, 819, 800, 801, 802] (by decide +kernel) (by decide +kernel)
set_option maxRecDepth 20000 in
theorem gL_law_X6_play : GoodIn wsL_law (wsV RL 94 RX6 yX6_play wsX6_play) := goodIn_app (goodIn_of _ (by decide +kernel)) ggL_law_X6_play
set_option maxRecDepth 20000 in
theorem ggL_law_X7_play : GoodIn wsL_law wsX7_play := goodIn_r _ [773, 121, 123, 222, 737, 134, 729, 730, 5, 731, 732, 733, 734, 735, 183, 736, 726, 635, 727, 728, 738, 739, 740, 741, 124, 742, 129, 743, 744, 745, 746, 176, 177, 178, 747, 748, 749, 750, 751, 752, 753, 754, 755, 756, 757, 758, 759, 272, 273, 274, 175, 275, 179, 180, 181, 182, 184, 122, 276, 277, 278, 279, 280, 281, 282, 283, 284, 285, 286, 287, 288, 760, 372, 373, 374, 221, 128, 375, 376, 377, 378, 379, 380, 381, 382, 231, 232, 233, 234, 235, 236, 237, 383, 384, 385, 386, 227, 228, 229, 230, 387, 388, 389, 390, 125, 391, 392, 393, 394, 395, 396, 397, 398, 126, 127, 399, 400, 401, 402, 403, 404, 761, 411, 412, 413, 414, 415, 416, 417, 782, 783, 784, 785, 786, 787, 788, 789, 790, 791, 792, 793, 794, 795, 796, 797, 798, 799] (by decide +kernel) (by decide +kernel)
set_option maxRecDepth 20000 in
theorem gL_law_X7_play : GoodIn wsL_law (wsV RL 97 RX7 yX7_play wsX7_play) := goodIn_app (goodIn_of _ (by decide +kernel)) ggL_law_X7_play
theorem dL_law_0 : decode cL_law 0 = .ok (.new 7, 3) := by decide +kernel
theorem dL_law_3 : decode cL_law 3 = .ok (.dup, 1) := by decide +kernel
theorem dL_law_4 : decode cL_law 4 = .ok (.invokespecial 9, 3) := by decide +kernel
theorem dL_law_7 : decode cL_law 7 = .ok (.astore_n 1, 1) := by decide +kernel
theorem dL_law_8 : decode cL_law 8 = .ok (.new 10, 3) := by decide +kernel
theorem dL_law_11 : decode cL_law 11 = .ok (.dup, 1) := by decide +kernel
theorem dL_law_12 : decode cL_law 12 = .ok (.invokespecial 12, 3) := by decide +kernel
theorem dL_law_15 : decode cL_law 15 = .ok (.astore_n 2, 1) := by decide +kernel
theorem dL_law_16 : decode cL_law 16 = .ok (.iconst 0, 1) := by decide +kernel
theorem dL_law_17 : decode cL_law 17 = .ok (.istore_n 3, 1) := by decide +kernel
theorem dL_law_18 : decode cL_law 18 = .ok (.iload_n 3, 1) := by decide +kernel
theorem dL_law_19 : decode cL_law 19 = .ok (.aload_n 0, 1) := by decide +kernel
theorem dL_law_20 : decode cL_law 20 = .ok (.arraylength, 1) := by decide +kernel
theorem dL_law_21 : decode cL_law 21 = .ok (.iconst 5, 1) := by decide +kernel
theorem dL_law_22 : decode cL_law 22 = .ok (.isub, 1) := by decide +kernel
theorem dL_law_23 : decode cL_law 23 = .ok (.if_icmp .gt 681, 3) := by decide +kernel
theorem dL_law_26 : decode cL_law 26 = .ok (.aload_n 0, 1) := by decide +kernel
theorem dL_law_27 : decode cL_law 27 = .ok (.iload_n 3, 1) := by decide +kernel
theorem dL_law_28 : decode cL_law 28 = .ok (.iaload, 1) := by decide +kernel
theorem dL_law_29 : decode cL_law 29 = .ok (.bipush 31, 2) := by decide +kernel
theorem dL_law_31 : decode cL_law 31 = .ok (.iand, 1) := by decide +kernel
theorem dL_law_32 : decode cL_law 32 = .ok (.tableswitch 666 0 19 #[96, 139, 172, 205, 238, 251, 284, 317, 350, 393, 426, 439, 472, 525, 558, 581, 594, 617, 630, 653], 96) := by decide +kernel
theorem dL_law_128 : decode cL_law 128 = .ok (.aload_n 1, 1) := by decide +kernel
theorem dL_law_129 : decode cL_law 129 = .ok (.aload_n 0, 1) := by decide +kernel
theorem dL_law_130 : decode cL_law 130 = .ok (.iload_n 3, 1) := by decide +kernel
theorem dL_law_131 : decode cL_law 131 = .ok (.iconst 1, 1) := by decide +kernel
theorem dL_law_132 : decode cL_law 132 = .ok (.iadd, 1) := by decide +kernel
theorem dL_law_133 : decode cL_law 133 = .ok (.iaload, 1) := by decide +kernel
theorem dL_law_134 : decode cL_law 134 = .ok (.aload_n 0, 1) := by decide +kernel
theorem dL_law_135 : decode cL_law 135 = .ok (.iload_n 3, 1) := by decide +kernel
theorem dL_law_136 : decode cL_law 136 = .ok (.iconst 2, 1) := by decide +kernel
theorem dL_law_137 : decode cL_law 137 = .ok (.iadd, 1) := by decide +kernel
theorem dL_law_138 : decode cL_law 138 = .ok (.iaload, 1) := by decide +kernel
theorem dL_law_139 : decode cL_law 139 = .ok (.aload_n 0, 1) := by decide +kernel
theorem dL_law_140 : decode cL_law 140 = .ok (.iload_n 3, 1) := by decide +kernel
theorem dL_law_141 : decode cL_law 141 = .ok (.iconst 3, 1) := by decide +kernel
theorem dL_law_142 : decode cL_law 142 = .ok (.iadd, 1) := by decide +kernel
theorem dL_law_143 : decode cL_law 143 = .ok (.iaload, 1) := by decide +kernel
theorem dL_law_144 : decode cL_law 144 = .ok (.invokevirtual 13, 3) := by decide +kernel
theorem dL_law_147 : decode cL_law 147 = .ok (.aload_n 2, 1) := by decide +kernel
theorem dL_law_148 : decode cL_law 148 = .ok (.aload_n 0, 1) := by decide +kernel
theorem dL_law_149 : decode cL_law 149 = .ok (.iload_n 3, 1) := by decide +kernel
theorem dL_law_150 : decode cL_law 150 = .ok (.iconst 1, 1) := by decide +kernel
theorem dL_law_151 : decode cL_law 151 = .ok (.iadd, 1) := by decide +kernel
theorem dL_law_152 : decode cL_law 152 = .ok (.iaload, 1) := by decide +kernel
theorem dL_law_153 : decode cL_law 153 = .ok (.aload_n 0, 1) := by decide +kernel
theorem dL_law_154 : decode cL_law 154 = .ok (.iload_n 3, 1) := by decide +kernel
theorem dL_law_155 : decode cL_law 155 = .ok (.iconst 2, 1) := by decide +kernel
theorem dL_law_156 : decode cL_law 156 = .ok (.iadd, 1) := by decide +kernel
theorem dL_law_157 : decode cL_law 157 = .ok (.iaload, 1) := by decide +kernel
theorem dL_law_158 : decode cL_law 158 = .ok (.aload_n 0, 1) := by decide +kernel
theorem dL_law_159 : decode cL_law 159 = .ok (.iload_n 3, 1) := by decide +kernel
theorem dL_law_160 : decode cL_law 160 = .ok (.iconst 3, 1) := by decide +kernel
theorem dL_law_161 : decode cL_law 161 = .ok (.iadd, 1) := by decide +kernel
theorem dL_law_162 : decode cL_law 162 = .ok (.iaload, 1) := by decide +kernel
theorem dL_law_163 : decode cL_law 163 = .ok (.invokevirtual 17, 3) := by decide +kernel
theorem dL_law_166 : decode cL_law 166 = .ok (.if_icmp .eq 532, 3) := by decide +kernel
theorem dL_law_169 : decode cL_law 169 = .ok (.iconst 0, 1) := by decide +kernel
theorem dL_law_170 : decode cL_law 170 = .ok (.ireturn, 1) := by decide +kernel
theorem dL_law_171 : decode cL_law 171 = .ok (.aload_n 1, 1) := by decide +kernel
theorem dL_law_172 : decode cL_law 172 = .ok (.aload_n 0, 1) := by decide +kernel
theorem dL_law_173 : decode cL_law 173 = .ok (.iload_n 3, 1) := by decide +kernel
theorem dL_law_174 : decode cL_law 174 = .ok (.iconst 1, 1) := by decide +kernel
theorem dL_law_175 : decode cL_law 175 = .ok (.iadd, 1) := by decide +kernel
theorem dL_law_176 : decode cL_law 176 = .ok (.iaload, 1) := by decide +kernel
theorem dL_law_177 : decode cL_law 177 = .ok (.aload_n 0, 1) := by decide +kernel
theorem dL_law_178 : decode cL_law 178 = .ok (.iload_n 3, 1) := by decide +kernel
theorem dL_law_179 : decode cL_law 179 = .ok (.iconst 2, 1) := by decide +kernel
theorem dL_law_180 : decode cL_law 180 = .ok (.iadd, 1) := by decide +kernel
theorem dL_law_181 : decode cL_law 181 = .ok (.iaload, 1) := by decide +kernel
theorem dL_law_182 : decode cL_law 182 = .ok (.invokevirtual 18, 3) := by decide +kernel
theorem dL_law_185 : decode cL_law 185 = .ok (.aload_n 2, 1) := by decide +kernel
theorem dL_law_186 : decode cL_law 186 = .ok (.aload_n 0, 1) := by decide +kernel
theorem dL_law_187 : decode cL_law 187 = .ok (.iload_n 3, 1) := by decide +kernel
theorem dL_law_188 : decode cL_law 188 = .ok (.iconst 1, 1) := by decide +kernel
theorem dL_law_189 : decode cL_law 189 = .ok (.iadd, 1) := by decide +kernel
theorem dL_law_190 : decode cL_law 190 = .ok (.iaload, 1) := by decide +kernel
theorem dL_law_191 : decode cL_law 191 = .ok (.aload_n 0, 1) := by decide +kernel
theorem dL_law_192 : decode cL_law 192 = .ok (.iload_n 3, 1) := by decide +kernel
theorem dL_law_193 : decode cL_law 193 = .ok (.iconst 2, 1) := by decide +kernel
theorem dL_law_194 : decode cL_law 194 = .ok (.iadd, 1) := by decide +kernel
theorem dL_law_195 : decode cL_law 195 = .ok (.iaload, 1) := by decide +kernel
theorem dL_law_196 : decode cL_law 196 = .ok (.invokevirtual 22, 3) := by decide +kernel
theorem dL_law_199 : decode cL_law 199 = .ok (.if_icmp .eq 499, 3) := by decide +kernel
theorem dL_law_202 : decode cL_law 202 = .ok (.iconst 0, 1) := by decide +kernel
theorem dL_law_203 : decode cL_law 203 = .ok (.ireturn, 1) := by decide +kernel
theorem dL_law_204 : decode cL_law 204 = .ok (.aload_n 1, 1) := by decide +kernel
theorem dL_law_205 : decode cL_law 205 = .ok (.aload_n 0, 1) := by decide +kernel
theorem dL_law_206 : decode cL_law 206 = .ok (.iload_n 3, 1) := by decide +kernel
theorem dL_law_207 : decode cL_law 207 = .ok (.iconst 1, 1) := by decide +kernel
theorem dL_law_208 : decode cL_law 208 = .ok (.iadd, 1) := by decide +kernel
theorem dL_law_209 : decode cL_law 209 = .ok (.iaload, 1) := by decide +kernel
theorem dL_law_210 : decode cL_law 210 = .ok (.aload_n 0, 1) := by decide +kernel
theorem dL_law_211 : decode cL_law 211 = .ok (.iload_n 3, 1) := by decide +kernel
theorem dL_law_212 : decode cL_law 212 = .ok (.iconst 2, 1) := by decide +kernel
theorem dL_law_213 : decode cL_law 213 = .ok (.iadd, 1) := by decide +kernel
theorem dL_law_214 : decode cL_law 214 = .ok (.iaload, 1) := by decide +kernel
theorem dL_law_215 : decode cL_law 215 = .ok (.invokevirtual 23, 3) := by decide +kernel
theorem dL_law_218 : decode cL_law 218 = .ok (.aload_n 2, 1) := by decide +kernel
theorem dL_law_219 : decode cL_law 219 = .ok (.aload_n 0, 1) := by decide +kernel
theorem dL_law_220 : decode cL_law 220 = .ok (.iload_n 3, 1) := by decide +kernel
theorem dL_law_221 : decode cL_law 221 = .ok (.iconst 1, 1) := by decide +kernel
theorem dL_law_222 : decode cL_law 222 = .ok (.iadd, 1) := by decide +kernel
theorem dL_law_223 : decode cL_law 223 = .ok (.iaload, 1) := by decide +kernel
theorem dL_law_224 : decode cL_law 224 = .ok (.aload_n 0, 1) := by decide +kernel
theorem dL_law_225 : decode cL_law 225 = .ok (.iload_n 3, 1) := by decide +kernel
theorem dL_law_226 : decode cL_law 226 = .ok (.iconst 2, 1) := by decide +kernel
theorem dL_law_227 : decode cL_law 227 = .ok (.iadd, 1) := by decide +kernel
theorem dL_law_228 : decode cL_law 228 = .ok (.iaload, 1) := by decide +kernel
theorem dL_law_229 : decode cL_law 229 = .ok (.invokevirtual 26, 3) := by decide +kernel
theorem dL_law_232 : decode cL_law 232 = .ok (.if_icmp .eq 466, 3) := by decide +kernel
theorem dL_law_235 : decode cL_law 235 = .ok (.iconst 0, 1) := by decide +kernel
theorem dL_law_236 : decode cL_law 236 = .ok (.ireturn, 1) := by decide +kernel
theorem dL_law_237 : decode cL_law 237 = .ok (.aload_n 1, 1) := by decide +kernel
theorem dL_law_238 : decode cL_law 238 = .ok (.aload_n 0, 1) := by decide +kernel
theorem dL_law_239 : decode cL_law 239 = .ok (.iload_n 3, 1) := by decide +kernel
theorem dL_law_240 : decode cL_law 240 = .ok (.iconst 1, 1) := by decide +kernel
theorem dL_law_241 : decode cL_law 241 = .ok (.iadd, 1) := by decide +kernel
theorem dL_law_242 : decode cL_law 242 = .ok (.iaload, 1) := by decide +kernel
theorem dL_law_243 : decode cL_law 243 = .ok (.aload_n 0, 1) := by decide +kernel
theorem dL_law_244 : decode cL_law 244 = .ok (.iload_n 3, 1) := by decide +kernel
theorem dL_law_245 : decode cL_law 245 = .ok (.iconst 2, 1) := by decide +kernel
theorem dL_law_246 : decode cL_law 246 = .ok (.iadd, 1) := by decide +kernel
theorem dL_law_247 : decode cL_law 247 = .ok (.iaload, 1) := by decide +kernel
theorem dL_law_248 : decode cL_law 248 = .ok (.invokevirtual 27, 3) := by decide +kernel
theorem dL_law_251 : decode cL_law 251 = .ok (.aload_n 2, 1) := by decide +kernel
theorem dL_law_252 : decode cL_law 252 = .ok (.aload_n 0, 1) := by decide +kernel
theorem dL_law_253 : decode cL_law 253 = .ok (.iload_n 3, 1) := by decide +kernel
theorem dL_law_254 : decode cL_law 254 = .ok (.iconst 1, 1) := by decide +kernel
theorem dL_law_255 : decode cL_law 255 = .ok (.iadd, 1) := by decide +kernel
theorem dL_law_256 : decode cL_law 256 = .ok (.iaload, 1) := by decide +kernel
theorem dL_law_257 : decode cL_law 257 = .ok (.aload_n 0, 1) := by decide +kernel
theorem dL_law_258 : decode cL_law 258 = .ok (.iload_n 3, 1) := by decide +kernel
theorem dL_law_259 : decode cL_law 259 = .ok (.iconst 2, 1) := by decide +kernel
theorem dL_law_260 : decode cL_law 260 = .ok (.iadd, 1) := by decide +kernel
theorem dL_law_261 : decode cL_law 261 = .ok (.iaload, 1) := by decide +kernel
theorem dL_law_262 : decode cL_law 262 = .ok (.invokevirtual 30, 3) := by decide +kernel
theorem dL_law_265 : decode cL_law 265 = .ok (.if_icmp .eq 433, 3) := by decide +kernel
theorem dL_law_268 : decode cL_law 268 = .ok (.iconst 0, 1) := by decide +kernel
theorem dL_law_269 : decode cL_law 269 = .ok (.ireturn, 1) := by decide +kernel
theorem dL_law_270 : decode cL_law 270 = .ok (.aload_n 1, 1) := by decide +kernel
theorem dL_law_271 : decode cL_law 271 = .ok (.invokevirtual 31, 3) := by decide +kernel
theorem dL_law_274 : decode cL_law 274 = .ok (.aload_n 2, 1) := by decide +kernel
theorem dL_law_275 : decode cL_law 275 = .ok (.invokevirtual 35, 3) := by decide +kernel
theorem dL_law_278 : decode cL_law 278 = .ok (.if_icmp .eq 420, 3) := by decide +kernel
theorem dL_law_281 : decode cL_law 281 = .ok (.iconst 0, 1) := by decide +kernel
theorem dL_law_282 : decode cL_law 282 = .ok (.ireturn, 1) := by decide +kernel
theorem dL_law_283 : decode cL_law 283 = .ok (.aload_n 1, 1) := by decide +kernel
theorem dL_law_284 : decode cL_law 284 = .ok (.aload_n 0, 1) := by decide +kernel
theorem dL_law_285 : decode cL_law 285 = .ok (.iload_n 3, 1) := by decide +kernel
theorem dL_law_286 : decode cL_law 286 = .ok (.iconst 1, 1) := by decide +kernel
theorem dL_law_287 : decode cL_law 287 = .ok (.iadd, 1) := by decide +kernel
theorem dL_law_288 : decode cL_law 288 = .ok (.iaload, 1) := by decide +kernel
theorem dL_law_289 : decode cL_law 289 = .ok (.aload_n 0, 1) := by decide +kernel
theorem dL_law_290 : decode cL_law 290 = .ok (.iload_n 3, 1) := by decide +kernel
theorem dL_law_291 : decode cL_law 291 = .ok (.iconst 2, 1) := by decide +kernel
theorem dL_law_292 : decode cL_law 292 = .ok (.iadd, 1) := by decide +kernel
theorem dL_law_293 : decode cL_law 293 = .ok (.iaload, 1) := by decide +kernel
theorem dL_law_294 : decode cL_law 294 = .ok (.invokevirtual 36, 3) := by decide +kernel
theorem dL_law_297 : decode cL_law 297 = .ok (.aload_n 2, 1) := by decide +kernel
theorem dL_law_298 : decode cL_law 298 = .ok (.aload_n 0, 1) := by decide +kernel
theorem dL_law_299 : decode cL_law 299 = .ok (.iload_n 3, 1) := by decide +kernel
theorem dL_law_300 : decode cL_law 300 = .ok (.iconst 1, 1) := by decide +kernel
theorem dL_law_301 : decode cL_law 301 = .ok (.iadd, 1) := by decide +kernel
theorem dL_law_302 : decode cL_law 302 = .ok (.iaload, 1) := by decide +kernel
theorem dL_law_303 : decode cL_law 303 = .ok (.aload_n 0, 1) := by decide +kernel
theorem dL_law_304 : decode cL_law 304 = .ok (.iload_n 3, 1) := by decide +kernel
theorem dL_law_305 : decode cL_law 305 = .ok (.iconst 2, 1) := by decide +kernel
theorem dL_law_306 : decode cL_law 306 = .ok (.iadd, 1) := by decide +kernel
theorem dL_law_307 : decode cL_law 307 = .ok (.iaload, 1) := by decide +kernel
theorem dL_law_308 : decode cL_law 308 = .ok (.invokevirtual 39, 3) := by decide +kernel
theorem dL_law_311 : decode cL_law 311 = .ok (.if_icmp .eq 387, 3) := by decide +kernel
theorem dL_law_314 : decode cL_law 314 = .ok (.iconst 0, 1) := by decide +kernel
theorem dL_law_315 : decode cL_law 315 = .ok (.ireturn, 1) := by decide +kernel
theorem dL_law_316 : decode cL_law 316 = .ok (.aload_n 1, 1) := by decide +kernel
theorem dL_law_317 : decode cL_law 317 = .ok (.aload_n 0, 1) := by decide +kernel
theorem dL_law_318 : decode cL_law 318 = .ok (.iload_n 3, 1) := by decide +kernel
theorem dL_law_319 : decode cL_law 319 = .ok (.iconst 1, 1) := by decide +kernel
theorem dL_law_320 : decode cL_law 320 = .ok (.iadd, 1) := by decide +kernel
theorem dL_law_321 : decode cL_law 321 = .ok (.iaload, 1) := by decide +kernel
theorem dL_law_322 : decode cL_law 322 = .ok (.aload_n 0, 1) := by decide +kernel
theorem dL_law_323 : decode cL_law 323 = .ok (.iload_n 3, 1) := by decide +kernel
theorem dL_law_324 : decode cL_law 324 = .ok (.iconst 2, 1) := by decide +kernel
theorem dL_law_325 : decode cL_law 325 = .ok (.iadd, 1) := by decide +kernel
theorem dL_law_326 : decode cL_law 326 = .ok (.iaload, 1) := by decide +kernel
theorem dL_law_327 : decode cL_law 327 = .ok (.invokevirtual 40, 3) := by decide +kernel
theorem dL_law_330 : decode cL_law 330 = .ok (.aload_n 2, 1) := by decide +kernel
theorem dL_law_331 : decode cL_law 331 = .ok (.aload_n 0, 1) := by decide +kernel
theorem dL_law_332 : decode cL_law 332 = .ok (.iload_n 3, 1) := by decide +kernel
theorem dL_law_333 : decode cL_law 333 = .ok (.iconst 1, 1) := by decide +kernel
theorem dL_law_334 : decode cL_law 334 = .ok (.iadd, 1) := by decide +kernel
theorem dL_law_335 : decode cL_law 335 = .ok (.iaload, 1) := by decide +kernel
theorem dL_law_336 : decode cL_law 336 = .ok (.aload_n 0, 1) := by decide +kernel
theorem dL_law_337 : decode cL_law 337 = .ok (.iload_n 3, 1) := by decide +kernel
theorem dL_law_338 : decode cL_law 338 = .ok (.iconst 2, 1) := by decide +kernel
theorem dL_law_339 : decode cL_law 339 = .ok (.iadd, 1) := by decide +kernel
theorem dL_law_340 : decode cL_law 340 = .ok (.iaload, 1) := by decide +kernel
theorem dL_law_341 : decode cL_law 341 = .ok (.invokevirtual 43, 3) := by decide +kernel
theorem dL_law_344 : decode cL_law 344 = .ok (.if_icmp .eq 354, 3) := by decide +kernel
theorem dL_law_347 : decode cL_law 347 = .ok (.iconst 0, 1) := by decide +kernel
theorem dL_law_348 : decode cL_law 348 = .ok (.ireturn, 1) := by decide +kernel
theorem dL_law_349 : decode cL_law 349 = .ok (.aload_n 1, 1) := by decide +kernel
theorem dL_law_350 : decode cL_law 350 = .ok (.aload_n 0, 1) := by decide +kernel
theorem dL_law_351 : decode cL_law 351 = .ok (.iload_n 3, 1) := by decide +kernel
theorem dL_law_352 : decode cL_law 352 = .ok (.iconst 1, 1) := by decide +kernel
theorem dL_law_353 : decode cL_law 353 = .ok (.iadd, 1) := by decide +kernel
theorem dL_law_354 : decode cL_law 354 = .ok (.iaload, 1) := by decide +kernel
theorem dL_law_355 : decode cL_law 355 = .ok (.aload_n 0, 1) := by decide +kernel
theorem dL_law_356 : decode cL_law 356 = .ok (.iload_n 3, 1) := by decide +kernel
theorem dL_law_357 : decode cL_law 357 = .ok (.iconst 2, 1) := by decide +kernel
theorem dL_law_358 : decode cL_law 358 = .ok (.iadd, 1) := by decide +kernel
theorem dL_law_359 : decode cL_law 359 = .ok (.iaload, 1) := by decide +kernel
theorem dL_law_360 : decode cL_law 360 = .ok (.invokevirtual 44, 3) := by decide +kernel
theorem dL_law_363 : decode cL_law 363 = .ok (.aload_n 2, 1) := by decide +kernel
theorem dL_law_364 : decode cL_law 364 = .ok (.aload_n 0, 1) := by decide +kernel
theorem dL_law_365 : decode cL_law 365 = .ok (.iload_n 3, 1) := by decide +kernel
theorem dL_law_366 : decode cL_law 366 = .ok (.iconst 1, 1) := by decide +kernel
theorem dL_law_367 : decode cL_law 367 = .ok (.iadd, 1) := by decide +kernel
theorem dL_law_368 : decode cL_law 368 = .ok (.iaload, 1) := by decide +kernel
theorem dL_law_369 : decode cL_law 369 = .ok (.aload_n 0, 1) := by decide +kernel
theorem dL_law_370 : decode cL_law 370 = .ok (.iload_n 3, 1) := by decide +kernel
theorem dL_law_371 : decode cL_law 371 = .ok (.iconst 2, 1) := by decide +kernel
theorem dL_law_372 : decode cL_law 372 = .ok (.iadd, 1) := by decide +kernel
theorem dL_law_373 : decode cL_law 373 = .ok (.iaload, 1) := by decide +kernel
theorem dL_law_374 : decode cL_law 374 = .ok (.invokevirtual 47, 3) := by decide +kernel
theorem dL_law_377 : decode cL_law 377 = .ok (.if_icmp .eq 321, 3) := by decide +kernel
theorem dL_law_380 : decode cL_law 380 = .ok (.iconst 0, 1) := by decide +kernel
theorem dL_law_381 : decode cL_law 381 = .ok (.ireturn, 1) := by decide +kernel
theorem dL_law_382 : decode cL_law 382 = .ok (.aload_n 1, 1) := by decide +kernel
theorem dL_law_383 : decode cL_law 383 = .ok (.aload_n 0, 1) := by decide +kernel
theorem dL_law_384 : decode cL_law 384 = .ok (.iload_n 3, 1) := by decide +kernel
theorem dL_law_385 : decode cL_law 385 = .ok (.iconst 1, 1) := by decide +kernel
theorem dL_law_386 : decode cL_law 386 = .ok (.iadd, 1) := by decide +kernel
theorem dL_law_387 : decode cL_law 387 = .ok (.iaload, 1) := by decide +kernel
theorem dL_law_388 : decode cL_law 388 = .ok (.aload_n 0, 1) := by decide +kernel
theorem dL_law_389 : decode cL_law 389 = .ok (.iload_n 3, 1) := by decide +kernel
theorem dL_law_390 : decode cL_law 390 = .ok (.iconst 2, 1) := by decide +kernel
theorem dL_law_391 : decode cL_law 391 = .ok (.iadd, 1) := by decide +kernel
theorem dL_law_392 : decode cL_law 392 = .ok (.iaload, 1) := by decide +kernel
theorem dL_law_393 : decode cL_law 393 = .ok (.aload_n 0, 1) := by decide +kernel
theorem dL_law_394 : decode cL_law 394 = .ok (.iload_n 3, 1) := by decide +kernel
theorem dL_law_395 : decode cL_law 395 = .ok (.iconst 3, 1) := by decide +kernel
theorem dL_law_396 : decode cL_law 396 = .ok (.iadd, 1) := by decide +kernel
theorem dL_law_397 : decode cL_law 397 = .ok (.iaload, 1) := by decide +kernel
theorem dL_law_398 : decode cL_law 398 = .ok (.invokevirtual 48, 3) := by decide +kernel
theorem dL_law_401 : decode cL_law 401 = .ok (.aload_n 2, 1) := by decide +kernel
theorem dL_law_402 : decode cL_law 402 = .ok (.aload_n 0, 1) := by decide +kernel
theorem dL_law_403 : decode cL_law 403 = .ok (.iload_n 3, 1) := by decide +kernel
theorem dL_law_404 : decode cL_law 404 = .ok (.iconst 1, 1) := by decide +kernel
theorem dL_law_405 : decode cL_law 405 = .ok (.iadd, 1) := by decide +kernel
theorem dL_law_406 : decode cL_law 406 = .ok (.iaload, 1) := by decide +kernel
theorem dL_law_407 : decode cL_law 407 = .ok (.aload_n 0, 1) := by decide +kernel
theorem dL_law_408 : decode cL_law 408 = .ok (.iload_n 3, 1) := by decide +kernel
theorem dL_law_409 : decode cL_law 409 = .ok (.iconst 2, 1) := by decide +kernel
theorem dL_law_410 : decode cL_law 410 = .ok (.iadd, 1) := by decide +kernel
theorem dL_law_411 : decode cL_law 411 = .ok (.iaload, 1) := by decide +kernel
theorem dL_law_412 : decode cL_law 412 = .ok (.aload_n 0, 1) := by decide +kernel
theorem dL_law_413 : decode cL_law 413 = .ok (.iload_n 3, 1) := by decide +kernel
theorem dL_law_414 : decode cL_law 414 = .ok (.iconst 3, 1) := by decide +kernel
theorem dL_law_415 : decode cL_law 415 = .ok (.iadd, 1) := by decide +kernel
theorem dL_law_416 : decode cL_law 416 = .ok (.iaload, 1) := by decide +kernel
theorem dL_law_417 : decode cL_law 417 = .ok (.invokevirtual 51, 3) := by decide +kernel
theorem dL_law_420 : decode cL_law 420 = .ok (.if_icmp .eq 278, 3) := by decide +kernel
theorem dL_law_423 : decode cL_law 423 = .ok (.iconst 0, 1) := by decide +kernel
theorem dL_law_424 : decode cL_law 424 = .ok (.ireturn, 1) := by decide +kernel
theorem dL_law_425 : decode cL_law 425 = .ok (.aload_n 1, 1) := by decide +kernel
theorem dL_law_426 : decode cL_law 426 = .ok (.aload_n 0, 1) := by decide +kernel
theorem dL_law_427 : decode cL_law 427 = .ok (.iload_n 3, 1) := by decide +kernel
theorem dL_law_428 : decode cL_law 428 = .ok (.iconst 1, 1) := by decide +kernel
theorem dL_law_429 : decode cL_law 429 = .ok (.iadd, 1) := by decide +kernel
theorem dL_law_430 : decode cL_law 430 = .ok (.iaload, 1) := by decide +kernel
theorem dL_law_431 : decode cL_law 431 = .ok (.aload_n 0, 1) := by decide +kernel
theorem dL_law_432 : decode cL_law 432 = .ok (.iload_n 3, 1) := by decide +kernel
theorem dL_law_433 : decode cL_law 433 = .ok (.iconst 2, 1) := by decide +kernel
theorem dL_law_434 : decode cL_law 434 = .ok (.iadd, 1) := by decide +kernel
theorem dL_law_435 : decode cL_law 435 = .ok (.iaload, 1) := by decide +kernel
theorem dL_law_436 : decode cL_law 436 = .ok (.invokevirtual 52, 3) := by decide +kernel
theorem dL_law_439 : decode cL_law 439 = .ok (.aload_n 2, 1) := by decide +kernel
theorem dL_law_440 : decode cL_law 440 = .ok (.aload_n 0, 1) := by decide +kernel
theorem dL_law_441 : decode cL_law 441 = .ok (.iload_n 3, 1) := by decide +kernel
theorem dL_law_442 : decode cL_law 442 = .ok (.iconst 1, 1) := by decide +kernel
theorem dL_law_443 : decode cL_law 443 = .ok (.iadd, 1) := by decide +kernel
theorem dL_law_444 : decode cL_law 444 = .ok (.iaload, 1) := by decide +kernel
theorem dL_law_445 : decode cL_law 445 = .ok (.aload_n 0, 1) := by decide +kernel
theorem dL_law_446 : decode cL_law 446 = .ok (.iload_n 3, 1) := by decide +kernel
theorem dL_law_447 : decode cL_law 447 = .ok (.iconst 2, 1) := by decide +kernel
theorem dL_law_448 : decode cL_law 448 = .ok (.iadd, 1) := by decide +kernel
theorem dL_law_449 : decode cL_law 449 = .ok (.iaload, 1) := by decide +kernel
theorem dL_law_450 : decode cL_law 450 = .ok (.invokevirtual 55, 3) := by decide +kernel
theorem dL_law_453 : decode cL_law 453 = .ok (.if_icmp .eq 245, 3) := by decide +kernel
theorem dL_law_456 : decode cL_law 456 = .ok (.iconst 0, 1) := by decide +kernel
theorem dL_law_457 : decode cL_law 457 = .ok (.ireturn, 1) := by decide +kernel
theorem dL_law_458 : decode cL_law 458 = .ok (.aload_n 1, 1) := by decide +kernel
theorem dL_law_459 : decode cL_law 459 = .ok (.invokevirtual 56, 3) := by decide +kernel
theorem dL_law_462 : decode cL_law 462 = .ok (.aload_n 2, 1) := by decide +kernel
theorem dL_law_463 : decode cL_law 463 = .ok (.invokevirtual 59, 3) := by decide +kernel
theorem dL_law_466 : decode cL_law 466 = .ok (.if_icmp .eq 232, 3) := by decide +kernel
theorem dL_law_469 : decode cL_law 469 = .ok (.iconst 0, 1) := by decide +kernel
theorem dL_law_470 : decode cL_law 470 = .ok (.ireturn, 1) := by decide +kernel
theorem dL_law_471 : decode cL_law 471 = .ok (.aload_n 1, 1) := by decide +kernel
theorem dL_law_472 : decode cL_law 472 = .ok (.aload_n 0, 1) := by decide +kernel
theorem dL_law_473 : decode cL_law 473 = .ok (.iload_n 3, 1) := by decide +kernel
theorem dL_law_474 : decode cL_law 474 = .ok (.iconst 1, 1) := by decide +kernel
theorem dL_law_475 : decode cL_law 475 = .ok (.iadd, 1) := by decide +kernel
theorem dL_law_476 : decode cL_law 476 = .ok (.iaload, 1) := by decide +kernel
theorem dL_law_477 : decode cL_law 477 = .ok (.aload_n 0, 1) := by decide +kernel
theorem dL_law_478 : decode cL_law 478 = .ok (.iload_n 3, 1) := by decide +kernel
theorem dL_law_479 : decode cL_law 479 = .ok (.iconst 2, 1) := by decide +kernel
theorem dL_law_480 : decode cL_law 480 = .ok (.iadd, 1) := by decide +kernel
theorem dL_law_481 : decode cL_law 481 = .ok (.iaload, 1) := by decide +kernel
theorem dL_law_482 : decode cL_law 482 = .ok (.invokevirtual 60, 3) := by decide +kernel
theorem dL_law_485 : decode cL_law 485 = .ok (.aload_n 2, 1) := by decide +kernel
theorem dL_law_486 : decode cL_law 486 = .ok (.aload_n 0, 1) := by decide +kernel
theorem dL_law_487 : decode cL_law 487 = .ok (.iload_n 3, 1) := by decide +kernel
theorem dL_law_488 : decode cL_law 488 = .ok (.iconst 1, 1) := by decide +kernel
theorem dL_law_489 : decode cL_law 489 = .ok (.iadd, 1) := by decide +kernel
theorem dL_law_490 : decode cL_law 490 = .ok (.iaload, 1) := by decide +kernel
theorem dL_law_491 : decode cL_law 491 = .ok (.aload_n 0, 1) := by decide +kernel
theorem dL_law_492 : decode cL_law 492 = .ok (.iload_n 3, 1) := by decide +kernel
theorem dL_law_493 : decode cL_law 493 = .ok (.iconst 2, 1) := by decide +kernel
theorem dL_law_494 : decode cL_law 494 = .ok (.iadd, 1) := by decide +kernel
theorem dL_law_495 : decode cL_law 495 = .ok (.iaload, 1) := by decide +kernel
theorem dL_law_496 : decode cL_law 496 = .ok (.invokevirtual 63, 3) := by decide +kernel
theorem dL_law_499 : decode cL_law 499 = .ok (.if_icmp .eq 199, 3) := by decide +kernel
theorem dL_law_502 : decode cL_law 502 = .ok (.iconst 0, 1) := by decide +kernel
theorem dL_law_503 : decode cL_law 503 = .ok (.ireturn, 1) := by decide +kernel
theorem dL_law_504 : decode cL_law 504 = .ok (.aload_n 1, 1) := by decide +kernel
theorem dL_law_505 : decode cL_law 505 = .ok (.aload_n 0, 1) := by decide +kernel
theorem dL_law_506 : decode cL_law 506 = .ok (.iload_n 3, 1) := by decide +kernel
theorem dL_law_507 : decode cL_law 507 = .ok (.iconst 1, 1) := by decide +kernel
theorem dL_law_508 : decode cL_law 508 = .ok (.iadd, 1) := by decide +kernel
theorem dL_law_509 : decode cL_law 509 = .ok (.iaload, 1) := by decide +kernel
theorem dL_law_510 : decode cL_law 510 = .ok (.aload_n 0, 1) := by decide +kernel
theorem dL_law_511 : decode cL_law 511 = .ok (.iload_n 3, 1) := by decide +kernel
theorem dL_law_512 : decode cL_law 512 = .ok (.iconst 2, 1) := by decide +kernel
theorem dL_law_513 : decode cL_law 513 = .ok (.iadd, 1) := by decide +kernel
theorem dL_law_514 : decode cL_law 514 = .ok (.iaload, 1) := by decide +kernel
theorem dL_law_515 : decode cL_law 515 = .ok (.aload_n 0, 1) := by decide +kernel
theorem dL_law_516 : decode cL_law 516 = .ok (.iload_n 3, 1) := by decide +kernel
theorem dL_law_517 : decode cL_law 517 = .ok (.iconst 3, 1) := by decide +kernel
theorem dL_law_518 : decode cL_law 518 = .ok (.iadd, 1) := by decide +kernel
theorem dL_law_519 : decode cL_law 519 = .ok (.iaload, 1) := by decide +kernel
theorem dL_law_520 : decode cL_law 520 = .ok (.aload_n 0, 1) := by decide +kernel
theorem dL_law_521 : decode cL_law 521 = .ok (.iload_n 3, 1) := by decide +kernel
theorem dL_law_522 : decode cL_law 522 = .ok (.iconst 4, 1) := by decide +kernel
theorem dL_law_523 : decode cL_law 523 = .ok (.iadd, 1) := by decide +kernel
theorem dL_law_524 : decode cL_law 524 = .ok (.iaload, 1) := by decide +kernel
theorem dL_law_525 : decode cL_law 525 = .ok (.invokevirtual 64, 3) := by decide +kernel
theorem dL_law_528 : decode cL_law 528 = .ok (.aload_n 2, 1) := by decide +kernel
theorem dL_law_529 : decode cL_law 529 = .ok (.aload_n 0, 1) := by decide +kernel
theorem dL_law_530 : decode cL_law 530 = .ok (.iload_n 3, 1) := by decide +kernel
theorem dL_law_531 : decode cL_law 531 = .ok (.iconst 1, 1) := by decide +kernel
theorem dL_law_532 : decode cL_law 532 = .ok (.iadd, 1) := by decide +kernel
theorem dL_law_533 : decode cL_law 533 = .ok (.iaload, 1) := by decide +kernel
theorem dL_law_534 : decode cL_law 534 = .ok (.aload_n 0, 1) := by decide +kernel
theorem dL_law_535 : decode cL_law 535 = .ok (.iload_n 3, 1) := by decide +kernel
theorem dL_law_536 : decode cL_law 536 = .ok (.iconst 2, 1) := by decide +kernel
theorem dL_law_537 : decode cL_law 537 = .ok (.iadd, 1) := by decide +kernel
theorem dL_law_538 : decode cL_law 538 = .ok (.iaload, 1) := by decide +kernel
theorem dL_law_539 : decode cL_law 539 = .ok (.aload_n 0, 1) := by decide +kernel
theorem dL_law_540 : decode cL_law 540 = .ok (.iload_n 3, 1) := by decide +kernel
theorem dL_law_541 : decode cL_law 541 = .ok (.iconst 3, 1) := by decide +kernel
theorem dL_law_542 : decode cL_law 542 = .ok (.iadd, 1) := by decide +kernel
theorem dL_law_543 : decode cL_law 543 = .ok (.iaload, 1) := by decide +kernel
theorem dL_law_544 : decode cL_law 544 = .ok (.aload_n 0, 1) := by decide +kernel
theorem dL_law_545 : decode cL_law 545 = .ok (.iload_n 3, 1) := by decide +kernel
theorem dL_law_546 : decode cL_law 546 = .ok (.iconst 4, 1) := by decide +kernel
theorem dL_law_547 : decode cL_law 547 = .ok (.iadd, 1) := by decide +kernel
theorem dL_law_548 : decode cL_law 548 = .ok (.iaload, 1) := by decide +kernel
theorem dL_law_549 : decode cL_law 549 = .ok (.invokevirtual 68, 3) := by decide +kernel
theorem dL_law_552 : decode cL_law 552 = .ok (.if_icmp .eq 146, 3) := by decide +kernel
theorem dL_law_555 : decode cL_law 555 = .ok (.iconst 0, 1) := by decide +kernel
theorem dL_law_556 : decode cL_law 556 = .ok (.ireturn, 1) := by decide +kernel
theorem dL_law_557 : decode cL_law 557 = .ok (.aload_n 1, 1) := by decide +kernel
theorem dL_law_558 : decode cL_law 558 = .ok (.aload_n 0, 1) := by decide +kernel
theorem dL_law_559 : decode cL_law 559 = .ok (.iload_n 3, 1) := by decide +kernel
theorem dL_law_560 : decode cL_law 560 = .ok (.iconst 1, 1) := by decide +kernel
theorem dL_law_561 : decode cL_law 561 = .ok (.iadd, 1) := by decide +kernel
theorem dL_law_562 : decode cL_law 562 = .ok (.iaload, 1) := by decide +kernel
theorem dL_law_563 : decode cL_law 563 = .ok (.aload_n 0, 1) := by decide +kernel
theorem dL_law_564 : decode cL_law 564 = .ok (.iload_n 3, 1) := by decide +kernel
theorem dL_law_565 : decode cL_law 565 = .ok (.iconst 2, 1) := by decide +kernel
theorem dL_law_566 : decode cL_law 566 = .ok (.iadd, 1) := by decide +kernel
theorem dL_law_567 : decode cL_law 567 = .ok (.iaload, 1) := by decide +kernel
theorem dL_law_568 : decode cL_law 568 = .ok (.invokevirtual 69, 3) := by decide +kernel
theorem dL_law_571 : decode cL_law 571 = .ok (.aload_n 2, 1) := by decide +kernel
theorem dL_law_572 : decode cL_law 572 = .ok (.aload_n 0, 1) := by decide +kernel
theorem dL_law_573 : decode cL_law 573 = .ok (.iload_n 3, 1) := by decide +kernel
theorem dL_law_574 : decode cL_law 574 = .ok (.iconst 1, 1) := by decide +kernel
theorem dL_law_575 : decode cL_law 575 = .ok (.iadd, 1) := by decide +kernel
theorem dL_law_576 : decode cL_law 576 = .ok (.iaload, 1) := by decide +kernel
theorem dL_law_577 : decode cL_law 577 = .ok (.aload_n 0, 1) := by decide +kernel
theorem dL_law_578 : decode cL_law 578 = .ok (.iload_n 3, 1) := by decide +kernel
theorem dL_law_579 : decode cL_law 579 = .ok (.iconst 2, 1) := by decide +kernel
theorem dL_law_580 : decode cL_law 580 = .ok (.iadd, 1) := by decide +kernel
theorem dL_law_581 : decode cL_law 581 = .ok (.iaload, 1) := by decide +kernel
theorem dL_law_582 : decode cL_law 582 = .ok (.invokevirtual 72, 3) := by decide +kernel
theorem dL_law_585 : decode cL_law 585 = .ok (.if_icmp .eq 113, 3) := by decide +kernel
theorem dL_law_588 : decode cL_law 588 = .ok (.iconst 0, 1) := by decide +kernel
theorem dL_law_589 : decode cL_law 589 = .ok (.ireturn, 1) := by decide +kernel
theorem dL_law_590 : decode cL_law 590 = .ok (.aload_n 1, 1) := by decide +kernel
theorem dL_law_591 : decode cL_law 591 = .ok (.aload_n 0, 1) := by decide +kernel
theorem dL_law_592 : decode cL_law 592 = .ok (.iload_n 3, 1) := by decide +kernel
theorem dL_law_593 : decode cL_law 593 = .ok (.iconst 1, 1) := by decide +kernel
theorem dL_law_594 : decode cL_law 594 = .ok (.iadd, 1) := by decide +kernel
theorem dL_law_595 : decode cL_law 595 = .ok (.iaload, 1) := by decide +kernel
theorem dL_law_596 : decode cL_law 596 = .ok (.invokevirtual 73, 3) := by decide +kernel
theorem dL_law_599 : decode cL_law 599 = .ok (.aload_n 2, 1) := by decide +kernel
theorem dL_law_600 : decode cL_law 600 = .ok (.aload_n 0, 1) := by decide +kernel
theorem dL_law_601 : decode cL_law 601 = .ok (.iload_n 3, 1) := by decide +kernel
theorem dL_law_602 : decode cL_law 602 = .ok (.iconst 1, 1) := by decide +kernel
theorem dL_law_603 : decode cL_law 603 = .ok (.iadd, 1) := by decide +kernel
theorem dL_law_604 : decode cL_law 604 = .ok (.iaload, 1) := by decide +kernel
theorem dL_law_605 : decode cL_law 605 = .ok (.invokevirtual 77, 3) := by decide +kernel
theorem dL_law_608 : decode cL_law 608 = .ok (.if_icmp .eq 90, 3) := by decide +kernel
theorem dL_law_611 : decode cL_law 611 = .ok (.iconst 0, 1) := by decide +kernel
theorem dL_law_612 : decode cL_law 612 = .ok (.ireturn, 1) := by decide +kernel
theorem dL_law_613 : decode cL_law 613 = .ok (.aload_n 1, 1) := by decide +kernel
theorem dL_law_614 : decode cL_law 614 = .ok (.invokevirtual 78, 3) := by decide +kernel
theorem dL_law_617 : decode cL_law 617 = .ok (.aload_n 2, 1) := by decide +kernel
theorem dL_law_618 : decode cL_law 618 = .ok (.invokevirtual 81, 3) := by decide +kernel
theorem dL_law_621 : decode cL_law 621 = .ok (.if_icmp .eq 77, 3) := by decide +kernel
theorem dL_law_624 : decode cL_law 624 = .ok (.iconst 0, 1) := by decide +kernel
theorem dL_law_625 : decode cL_law 625 = .ok (.ireturn, 1) := by decide +kernel
theorem dL_law_626 : decode cL_law 626 = .ok (.aload_n 1, 1) := by decide +kernel
theorem dL_law_627 : decode cL_law 627 = .ok (.aload_n 0, 1) := by decide +kernel
theorem dL_law_628 : decode cL_law 628 = .ok (.iload_n 3, 1) := by decide +kernel
theorem dL_law_629 : decode cL_law 629 = .ok (.iconst 1, 1) := by decide +kernel
theorem dL_law_630 : decode cL_law 630 = .ok (.iadd, 1) := by decide +kernel
theorem dL_law_631 : decode cL_law 631 = .ok (.iaload, 1) := by decide +kernel
theorem dL_law_632 : decode cL_law 632 = .ok (.invokevirtual 82, 3) := by decide +kernel
theorem dL_law_635 : decode cL_law 635 = .ok (.aload_n 2, 1) := by decide +kernel
theorem dL_law_636 : decode cL_law 636 = .ok (.aload_n 0, 1) := by decide +kernel
theorem dL_law_637 : decode cL_law 637 = .ok (.iload_n 3, 1) := by decide +kernel
theorem dL_law_638 : decode cL_law 638 = .ok (.iconst 1, 1) := by decide +kernel
theorem dL_law_639 : decode cL_law 639 = .ok (.iadd, 1) := by decide +kernel
theorem dL_law_640 : decode cL_law 640 = .ok (.iaload, 1) := by decide +kernel
theorem dL_law_641 : decode cL_law 641 = .ok (.invokevirtual 85, 3) := by decide +kernel
theorem dL_law_644 : decode cL_law 644 = .ok (.if_icmp .eq 54, 3) := by decide +kernel
theorem dL_law_647 : decode cL_law 647 = .ok (.iconst 0, 1) := by decide +kernel
theorem dL_law_648 : decode cL_law 648 = .ok (.ireturn, 1) := by decide +kernel
theorem dL_law_649 : decode cL_law 649 = .ok (.aload_n 1, 1) := by decide +kernel
theorem dL_law_650 : decode cL_law 650 = .ok (.invokevirtual 86, 3) := by decide +kernel
theorem dL_law_653 : decode cL_law 653 = .ok (.aload_n 2, 1) := by decide +kernel
theorem dL_law_654 : decode cL_law 654 = .ok (.invokevirtual 89, 3) := by decide +kernel
theorem dL_law_657 : decode cL_law 657 = .ok (.if_icmp .eq 41, 3) := by decide +kernel
theorem dL_law_660 : decode cL_law 660 = .ok (.iconst 0, 1) := by decide +kernel
theorem dL_law_661 : decode cL_law 661 = .ok (.ireturn, 1) := by decide +kernel
theorem dL_law_662 : decode cL_law 662 = .ok (.aload_n 1, 1) := by decide +kernel
theorem dL_law_663 : decode cL_law 663 = .ok (.aload_n 0, 1) := by decide +kernel
theorem dL_law_664 : decode cL_law 664 = .ok (.iload_n 3, 1) := by decide +kernel
theorem dL_law_665 : decode cL_law 665 = .ok (.iconst 1, 1) := by decide +kernel
theorem dL_law_666 : decode cL_law 666 = .ok (.iadd, 1) := by decide +kernel
theorem dL_law_667 : decode cL_law 667 = .ok (.iaload, 1) := by decide +kernel
theorem dL_law_668 : decode cL_law 668 = .ok (.invokevirtual 90, 3) := by decide +kernel
theorem dL_law_671 : decode cL_law 671 = .ok (.aload_n 2, 1) := by decide +kernel
theorem dL_law_672 : decode cL_law 672 = .ok (.aload_n 0, 1) := by decide +kernel
theorem dL_law_673 : decode cL_law 673 = .ok (.iload_n 3, 1) := by decide +kernel
theorem dL_law_674 : decode cL_law 674 = .ok (.iconst 1, 1) := by decide +kernel
theorem dL_law_675 : decode cL_law 675 = .ok (.iadd, 1) := by decide +kernel
theorem dL_law_676 : decode cL_law 676 = .ok (.iaload, 1) := by decide +kernel
theorem dL_law_677 : decode cL_law 677 = .ok (.invokevirtual 93, 3) := by decide +kernel
theorem dL_law_680 : decode cL_law 680 = .ok (.if_icmp .eq 18, 3) := by decide +kernel
theorem dL_law_683 : decode cL_law 683 = .ok (.iconst 0, 1) := by decide +kernel
theorem dL_law_684 : decode cL_law 684 = .ok (.ireturn, 1) := by decide +kernel
theorem dL_law_685 : decode cL_law 685 = .ok (.aload_n 1, 1) := by decide +kernel
theorem dL_law_686 : decode cL_law 686 = .ok (.invokevirtual 94, 3) := by decide +kernel
theorem dL_law_689 : decode cL_law 689 = .ok (.aload_n 2, 1) := by decide +kernel
theorem dL_law_690 : decode cL_law 690 = .ok (.invokevirtual 97, 3) := by decide +kernel
theorem dL_law_693 : decode cL_law 693 = .ok (.if_icmp .eq 5, 3) := by decide +kernel
theorem dL_law_696 : decode cL_law 696 = .ok (.iconst 0, 1) := by decide +kernel
theorem dL_law_697 : decode cL_law 697 = .ok (.ireturn, 1) := by decide +kernel
theorem dL_law_698 : decode cL_law 698 = .ok (.iinc 3 5, 3) := by decide +kernel
theorem dL_law_701 : decode cL_law 701 = .ok (.goto (-683), 3) := by decide +kernel
theorem dL_law_704 : decode cL_law 704 = .ok (.iconst 1, 1) := by decide +kernel
theorem dL_law_705 : decode cL_law 705 = .ok (.ireturn, 1) := by decide +kernel
abbrev vwCl : List vw_C := [(RX0, TX0, 3), (RX1, TX1, 8), (RX2, TX2, 1), (RX3, TX3, 10), (RX4, TX4, 7), (RX5, TX5, 2), (RX6, TX6, 8), (RX7, TX7, 18)]
