section
-- ===== PART A: goes FIRST, ahead of the names: the tables' words, and 'selects' of the private methods out of them =====
/-- a private method of a class that the tables say can be made, by its rows of tables_1 -/
def lw_okq (q : MethodName × Nat) : Prop := (q.1.cls ≠ "java/lang/invoke/MethodHandle" ∧ q.1.cls ≠ "java/lang/invoke/VarHandle") ∧ Cond.instantiable q.1.cls q.2 ∈ tables_1 ∧ Cond.privateMethod q.1 ∈ tables_1 ∧ Cond.instanceMethod q.1 ∈ tables_1
theorem lw_p0 : lw_okq (⟨"HungPictures$Wall", "makeBare", "()V"⟩, 15) := ⟨⟨by decide +kernel, by decide +kernel⟩, List.mem_of_getElem? (i := 75) (by decide +kernel), List.mem_of_getElem? (i := 81) (by decide +kernel), List.mem_of_getElem? (i := 82) (by decide +kernel)⟩
theorem lw_p1 : lw_okq (⟨"HungPictures$Reader", "readInto", "(LHungPictures$Wall;[II)I"⟩, 6) := ⟨⟨by decide +kernel, by decide +kernel⟩, List.mem_of_getElem? (i := 26) (by decide +kernel), List.mem_of_getElem? (i := 308) (by decide +kernel), List.mem_of_getElem? (i := 309) (by decide +kernel)⟩
theorem lw_p2 : lw_okq (⟨"HungPictures$Tokens", "cut", "([II)V"⟩, 4) := ⟨⟨by decide +kernel, by decide +kernel⟩, List.mem_of_getElem? (i := 32) (by decide +kernel), List.mem_of_getElem? (i := 312) (by decide +kernel), List.mem_of_getElem? (i := 313) (by decide +kernel)⟩
theorem lw_p3 : lw_okq (⟨"HungPictures$Tokens", "add", "(III)V"⟩, 4) := ⟨⟨by decide +kernel, by decide +kernel⟩, List.mem_of_getElem? (i := 32) (by decide +kernel), List.mem_of_getElem? (i := 394) (by decide +kernel), List.mem_of_getElem? (i := 395) (by decide +kernel)⟩
theorem lw_p4 : lw_okq (⟨"HungPictures$Reader", "readToken", "()V"⟩, 6) := ⟨⟨by decide +kernel, by decide +kernel⟩, List.mem_of_getElem? (i := 26) (by decide +kernel), List.mem_of_getElem? (i := 402) (by decide +kernel), List.mem_of_getElem? (i := 403) (by decide +kernel)⟩
theorem lw_p5 : lw_okq (⟨"HungPictures$Reader", "readItem", "(LHungPictures$Wall;)Z"⟩, 6) := ⟨⟨by decide +kernel, by decide +kernel⟩, List.mem_of_getElem? (i := 26) (by decide +kernel), List.mem_of_getElem? (i := 406) (by decide +kernel), List.mem_of_getElem? (i := 407) (by decide +kernel)⟩
theorem lw_p6 : lw_okq (⟨"HungPictures$Reader", "readWall", "(LHungPictures$Wall;)Z"⟩, 6) := ⟨⟨by decide +kernel, by decide +kernel⟩, List.mem_of_getElem? (i := 26) (by decide +kernel), List.mem_of_getElem? (i := 410) (by decide +kernel), List.mem_of_getElem? (i := 411) (by decide +kernel)⟩
theorem lw_p7 : lw_okq (⟨"HungPictures$Reader", "readNumber", "(II)Z"⟩, 6) := ⟨⟨by decide +kernel, by decide +kernel⟩, List.mem_of_getElem? (i := 26) (by decide +kernel), List.mem_of_getElem? (i := 414) (by decide +kernel), List.mem_of_getElem? (i := 415) (by decide +kernel)⟩
theorem lw_p8 : lw_okq (⟨"HungPictures$Reader", "readPicture", "(LHungPictures$Wall;)Z"⟩, 6) := ⟨⟨by decide +kernel, by decide +kernel⟩, List.mem_of_getElem? (i := 26) (by decide +kernel), List.mem_of_getElem? (i := 418) (by decide +kernel), List.mem_of_getElem? (i := 419) (by decide +kernel)⟩
theorem lw_p9 : lw_okq (⟨"HungPictures$Wall", "addPicture", "(IIII)V"⟩, 15) := ⟨⟨by decide +kernel, by decide +kernel⟩, List.mem_of_getElem? (i := 75) (by decide +kernel), List.mem_of_getElem? (i := 422) (by decide +kernel), List.mem_of_getElem? (i := 423) (by decide +kernel)⟩
theorem lw_p10 : lw_okq (⟨"HungPictures$Reader", "readDoor", "(LHungPictures$Wall;)Z"⟩, 6) := ⟨⟨by decide +kernel, by decide +kernel⟩, List.mem_of_getElem? (i := 26) (by decide +kernel), List.mem_of_getElem? (i := 426) (by decide +kernel), List.mem_of_getElem? (i := 427) (by decide +kernel)⟩
theorem lw_p11 : lw_okq (⟨"HungPictures$Wall", "addDoor", "(II)V"⟩, 15) := ⟨⟨by decide +kernel, by decide +kernel⟩, List.mem_of_getElem? (i := 75) (by decide +kernel), List.mem_of_getElem? (i := 430) (by decide +kernel), List.mem_of_getElem? (i := 431) (by decide +kernel)⟩
theorem lw_p12 : lw_okq (⟨"HungPictures$Reader", "readHole", "(LHungPictures$Wall;)Z"⟩, 6) := ⟨⟨by decide +kernel, by decide +kernel⟩, List.mem_of_getElem? (i := 26) (by decide +kernel), List.mem_of_getElem? (i := 434) (by decide +kernel), List.mem_of_getElem? (i := 435) (by decide +kernel)⟩
theorem lw_p13 : lw_okq (⟨"HungPictures$Wall", "findHole", "(II)I"⟩, 15) := ⟨⟨by decide +kernel, by decide +kernel⟩, List.mem_of_getElem? (i := 75) (by decide +kernel), List.mem_of_getElem? (i := 438) (by decide +kernel), List.mem_of_getElem? (i := 439) (by decide +kernel)⟩
theorem lw_p14 : lw_okq (⟨"HungPictures$Wall", "addHole", "(II)V"⟩, 15) := ⟨⟨by decide +kernel, by decide +kernel⟩, List.mem_of_getElem? (i := 75) (by decide +kernel), List.mem_of_getElem? (i := 442) (by decide +kernel), List.mem_of_getElem? (i := 443) (by decide +kernel)⟩
theorem lw_p15 : lw_okq (⟨"HungPictures$Reader", "readSemicolon", "()Z"⟩, 6) := ⟨⟨by decide +kernel, by decide +kernel⟩, List.mem_of_getElem? (i := 26) (by decide +kernel), List.mem_of_getElem? (i := 446) (by decide +kernel), List.mem_of_getElem? (i := 447) (by decide +kernel)⟩
def lw_privs_1 : List (MethodName × Nat) := [(⟨"HungPictures$Wall", "makeBare", "()V"⟩, 15), (⟨"HungPictures$Reader", "readInto", "(LHungPictures$Wall;[II)I"⟩, 6), (⟨"HungPictures$Tokens", "cut", "([II)V"⟩, 4), (⟨"HungPictures$Tokens", "add", "(III)V"⟩, 4), (⟨"HungPictures$Reader", "readToken", "()V"⟩, 6), (⟨"HungPictures$Reader", "readItem", "(LHungPictures$Wall;)Z"⟩, 6), (⟨"HungPictures$Reader", "readWall", "(LHungPictures$Wall;)Z"⟩, 6), (⟨"HungPictures$Reader", "readNumber", "(II)Z"⟩, 6), (⟨"HungPictures$Reader", "readPicture", "(LHungPictures$Wall;)Z"⟩, 6), (⟨"HungPictures$Wall", "addPicture", "(IIII)V"⟩, 15), (⟨"HungPictures$Reader", "readDoor", "(LHungPictures$Wall;)Z"⟩, 6), (⟨"HungPictures$Wall", "addDoor", "(II)V"⟩, 15), (⟨"HungPictures$Reader", "readHole", "(LHungPictures$Wall;)Z"⟩, 6), (⟨"HungPictures$Wall", "findHole", "(II)I"⟩, 15), (⟨"HungPictures$Wall", "addHole", "(II)V"⟩, 15), (⟨"HungPictures$Reader", "readSemicolon", "()Z"⟩, 6)]
theorem lw_r1 : ∀ q ∈ lw_privs_1, lw_okq q := List.forall_mem_cons.mpr ⟨lw_p0, List.forall_mem_cons.mpr ⟨lw_p1, List.forall_mem_cons.mpr ⟨lw_p2, List.forall_mem_cons.mpr ⟨lw_p3, List.forall_mem_cons.mpr ⟨lw_p4, List.forall_mem_cons.mpr ⟨lw_p5, List.forall_mem_cons.mpr ⟨lw_p6, List.forall_mem_cons.mpr ⟨lw_p7, List.forall_mem_cons.mpr ⟨lw_p8, List.forall_mem_cons.mpr ⟨lw_p9, List.forall_mem_cons.mpr ⟨lw_p10, List.forall_mem_cons.mpr ⟨lw_p11, List.forall_mem_cons.mpr ⟨lw_p12, List.forall_mem_cons.mpr ⟨lw_p13, List.forall_mem_cons.mpr ⟨lw_p14, List.forall_mem_cons.mpr ⟨lw_p15, fun _ h => absurd h List.not_mem_nil⟩⟩⟩⟩⟩⟩⟩⟩⟩⟩⟩⟩⟩⟩⟩⟩
theorem lw_p16 : lw_okq (⟨"HungPictures", "remember", "()V"⟩, 12) := ⟨⟨by decide +kernel, by decide +kernel⟩, List.mem_of_getElem? (i := 18) (by decide +kernel), List.mem_of_getElem? (i := 450) (by decide +kernel), List.mem_of_getElem? (i := 451) (by decide +kernel)⟩
theorem lw_p17 : lw_okq (⟨"HungPictures$Past", "add", "(LHungPictures$Wall;)V"⟩, 2) := ⟨⟨by decide +kernel, by decide +kernel⟩, List.mem_of_getElem? (i := 164) (by decide +kernel), List.mem_of_getElem? (i := 454) (by decide +kernel), List.mem_of_getElem? (i := 455) (by decide +kernel)⟩
theorem lw_p18 : lw_okq (⟨"HungPictures$Past", "loseOldest", "()V"⟩, 2) := ⟨⟨by decide +kernel, by decide +kernel⟩, List.mem_of_getElem? (i := 164) (by decide +kernel), List.mem_of_getElem? (i := 458) (by decide +kernel), List.mem_of_getElem? (i := 459) (by decide +kernel)⟩
theorem lw_p19 : lw_okq (⟨"HungPictures$Wall", "copyFrom", "(LHungPictures$Wall;)V"⟩, 15) := ⟨⟨by decide +kernel, by decide +kernel⟩, List.mem_of_getElem? (i := 75) (by decide +kernel), List.mem_of_getElem? (i := 462) (by decide +kernel), List.mem_of_getElem? (i := 463) (by decide +kernel)⟩
theorem lw_p20 : lw_okq (⟨"HungPictures$Wall", "hasPicture", "(I)Z"⟩, 15) := ⟨⟨by decide +kernel, by decide +kernel⟩, List.mem_of_getElem? (i := 75) (by decide +kernel), List.mem_of_getElem? (i := 475) (by decide +kernel), List.mem_of_getElem? (i := 476) (by decide +kernel)⟩
theorem lw_p21 : lw_okq (⟨"HungPictures$Wall", "isUp", "(I)Z"⟩, 15) := ⟨⟨by decide +kernel, by decide +kernel⟩, List.mem_of_getElem? (i := 75) (by decide +kernel), List.mem_of_getElem? (i := 479) (by decide +kernel), List.mem_of_getElem? (i := 480) (by decide +kernel)⟩
theorem lw_p22 : lw_okq (⟨"HungPictures$Wall", "isFreeFor", "(II)Z"⟩, 15) := ⟨⟨by decide +kernel, by decide +kernel⟩, List.mem_of_getElem? (i := 75) (by decide +kernel), List.mem_of_getElem? (i := 484) (by decide +kernel), List.mem_of_getElem? (i := 485) (by decide +kernel)⟩
theorem lw_p23 : lw_okq (⟨"HungPictures$Wall", "fits", "(II)Z"⟩, 15) := ⟨⟨by decide +kernel, by decide +kernel⟩, List.mem_of_getElem? (i := 75) (by decide +kernel), List.mem_of_getElem? (i := 488) (by decide +kernel), List.mem_of_getElem? (i := 489) (by decide +kernel)⟩
theorem lw_p24 : lw_okq (⟨"HungPictures$Wall", "isApartFromAll", "(II)Z"⟩, 15) := ⟨⟨by decide +kernel, by decide +kernel⟩, List.mem_of_getElem? (i := 75) (by decide +kernel), List.mem_of_getElem? (i := 492) (by decide +kernel), List.mem_of_getElem? (i := 493) (by decide +kernel)⟩
theorem lw_p25 : lw_okq (⟨"HungPictures$Wall", "hasHoleFor", "(II)Z"⟩, 15) := ⟨⟨by decide +kernel, by decide +kernel⟩, List.mem_of_getElem? (i := 75) (by decide +kernel), List.mem_of_getElem? (i := 496) (by decide +kernel), List.mem_of_getElem? (i := 497) (by decide +kernel)⟩
theorem lw_p26 : lw_okq (⟨"HungPictures$Wall", "hookX", "(II)I"⟩, 15) := ⟨⟨by decide +kernel, by decide +kernel⟩, List.mem_of_getElem? (i := 75) (by decide +kernel), List.mem_of_getElem? (i := 500) (by decide +kernel), List.mem_of_getElem? (i := 501) (by decide +kernel)⟩
theorem lw_p27 : lw_okq (⟨"HungPictures$Wall", "hookY", "(I)I"⟩, 15) := ⟨⟨by decide +kernel, by decide +kernel⟩, List.mem_of_getElem? (i := 75) (by decide +kernel), List.mem_of_getElem? (i := 504) (by decide +kernel), List.mem_of_getElem? (i := 505) (by decide +kernel)⟩
theorem lw_p28 : lw_okq (⟨"HungPictures$Wall", "putUp", "(II)V"⟩, 15) := ⟨⟨by decide +kernel, by decide +kernel⟩, List.mem_of_getElem? (i := 75) (by decide +kernel), List.mem_of_getElem? (i := 509) (by decide +kernel), List.mem_of_getElem? (i := 510) (by decide +kernel)⟩
theorem lw_p29 : lw_okq (⟨"HungPictures$Wall", "hasHole", "(I)Z"⟩, 15) := ⟨⟨by decide +kernel, by decide +kernel⟩, List.mem_of_getElem? (i := 75) (by decide +kernel), List.mem_of_getElem? (i := 523) (by decide +kernel), List.mem_of_getElem? (i := 524) (by decide +kernel)⟩
theorem lw_p30 : lw_okq (⟨"HungPictures$Wall", "findPictureOn", "(I)I"⟩, 15) := ⟨⟨by decide +kernel, by decide +kernel⟩, List.mem_of_getElem? (i := 75) (by decide +kernel), List.mem_of_getElem? (i := 527) (by decide +kernel), List.mem_of_getElem? (i := 528) (by decide +kernel)⟩
theorem lw_p31 : lw_okq (⟨"HungPictures$Wall", "removeHole", "(I)V"⟩, 15) := ⟨⟨by decide +kernel, by decide +kernel⟩, List.mem_of_getElem? (i := 75) (by decide +kernel), List.mem_of_getElem? (i := 532) (by decide +kernel), List.mem_of_getElem? (i := 533) (by decide +kernel)⟩
def lw_privs_2 : List (MethodName × Nat) := [(⟨"HungPictures", "remember", "()V"⟩, 12), (⟨"HungPictures$Past", "add", "(LHungPictures$Wall;)V"⟩, 2), (⟨"HungPictures$Past", "loseOldest", "()V"⟩, 2), (⟨"HungPictures$Wall", "copyFrom", "(LHungPictures$Wall;)V"⟩, 15), (⟨"HungPictures$Wall", "hasPicture", "(I)Z"⟩, 15), (⟨"HungPictures$Wall", "isUp", "(I)Z"⟩, 15), (⟨"HungPictures$Wall", "isFreeFor", "(II)Z"⟩, 15), (⟨"HungPictures$Wall", "fits", "(II)Z"⟩, 15), (⟨"HungPictures$Wall", "isApartFromAll", "(II)Z"⟩, 15), (⟨"HungPictures$Wall", "hasHoleFor", "(II)Z"⟩, 15), (⟨"HungPictures$Wall", "hookX", "(II)I"⟩, 15), (⟨"HungPictures$Wall", "hookY", "(I)I"⟩, 15), (⟨"HungPictures$Wall", "putUp", "(II)V"⟩, 15), (⟨"HungPictures$Wall", "hasHole", "(I)Z"⟩, 15), (⟨"HungPictures$Wall", "findPictureOn", "(I)I"⟩, 15), (⟨"HungPictures$Wall", "removeHole", "(I)V"⟩, 15)]
theorem lw_r2 : ∀ q ∈ lw_privs_2, lw_okq q := List.forall_mem_cons.mpr ⟨lw_p16, List.forall_mem_cons.mpr ⟨lw_p17, List.forall_mem_cons.mpr ⟨lw_p18, List.forall_mem_cons.mpr ⟨lw_p19, List.forall_mem_cons.mpr ⟨lw_p20, List.forall_mem_cons.mpr ⟨lw_p21, List.forall_mem_cons.mpr ⟨lw_p22, List.forall_mem_cons.mpr ⟨lw_p23, List.forall_mem_cons.mpr ⟨lw_p24, List.forall_mem_cons.mpr ⟨lw_p25, List.forall_mem_cons.mpr ⟨lw_p26, List.forall_mem_cons.mpr ⟨lw_p27, List.forall_mem_cons.mpr ⟨lw_p28, List.forall_mem_cons.mpr ⟨lw_p29, List.forall_mem_cons.mpr ⟨lw_p30, List.forall_mem_cons.mpr ⟨lw_p31, fun _ h => absurd h List.not_mem_nil⟩⟩⟩⟩⟩⟩⟩⟩⟩⟩⟩⟩⟩⟩⟩⟩
theorem lw_p32 : lw_okq (⟨"HungPictures$Wall", "takeAllDown", "()V"⟩, 15) := ⟨⟨by decide +kernel, by decide +kernel⟩, List.mem_of_getElem? (i := 75) (by decide +kernel), List.mem_of_getElem? (i := 540) (by decide +kernel), List.mem_of_getElem? (i := 541) (by decide +kernel)⟩
theorem lw_p33 : lw_okq (⟨"HungPictures$Past", "giveLatestTo", "(LHungPictures$Wall;)Z"⟩, 2) := ⟨⟨by decide +kernel, by decide +kernel⟩, List.mem_of_getElem? (i := 164) (by decide +kernel), List.mem_of_getElem? (i := 548) (by decide +kernel), List.mem_of_getElem? (i := 549) (by decide +kernel)⟩
theorem lw_p34 : lw_okq (⟨"HungPictures$Wall", "hasDoor", "(I)Z"⟩, 15) := ⟨⟨by decide +kernel, by decide +kernel⟩, List.mem_of_getElem? (i := 75) (by decide +kernel), List.mem_of_getElem? (i := 566) (by decide +kernel), List.mem_of_getElem? (i := 567) (by decide +kernel)⟩
theorem lw_p35 : lw_okq (⟨"HungPictures$Wall", "momentNow", "()I"⟩, 15) := ⟨⟨by decide +kernel, by decide +kernel⟩, List.mem_of_getElem? (i := 75) (by decide +kernel), List.mem_of_getElem? (i := 574) (by decide +kernel), List.mem_of_getElem? (i := 575) (by decide +kernel)⟩
theorem lw_p36 : lw_okq (⟨"HungPictures$Wall", "momentAt", "(II)I"⟩, 15) := ⟨⟨by decide +kernel, by decide +kernel⟩, List.mem_of_getElem? (i := 75) (by decide +kernel), List.mem_of_getElem? (i := 578) (by decide +kernel), List.mem_of_getElem? (i := 579) (by decide +kernel)⟩
theorem lw_p37 : lw_okq (⟨"HungPictures$Row", "search", "(LHungPictures$Wall;)V"⟩, 14) := ⟨⟨by decide +kernel, by decide +kernel⟩, List.mem_of_getElem? (i := 181) (by decide +kernel), List.mem_of_getElem? (i := 589) (by decide +kernel), List.mem_of_getElem? (i := 590) (by decide +kernel)⟩
theorem lw_p38 : lw_okq (⟨"HungPictures$Row", "markPlaces", "(LHungPictures$Wall;I)V"⟩, 14) := ⟨⟨by decide +kernel, by decide +kernel⟩, List.mem_of_getElem? (i := 181) (by decide +kernel), List.mem_of_getElem? (i := 593) (by decide +kernel), List.mem_of_getElem? (i := 594) (by decide +kernel)⟩
theorem lw_p39 : lw_okq (⟨"HungPictures$Row", "tryAllGaps", "(LHungPictures$Wall;I)V"⟩, 14) := ⟨⟨by decide +kernel, by decide +kernel⟩, List.mem_of_getElem? (i := 181) (by decide +kernel), List.mem_of_getElem? (i := 601) (by decide +kernel), List.mem_of_getElem? (i := 602) (by decide +kernel)⟩
theorem lw_p40 : lw_okq (⟨"HungPictures$Row", "takeIfBetter", "(II)V"⟩, 14) := ⟨⟨by decide +kernel, by decide +kernel⟩, List.mem_of_getElem? (i := 181) (by decide +kernel), List.mem_of_getElem? (i := 609) (by decide +kernel), List.mem_of_getElem? (i := 610) (by decide +kernel)⟩
theorem lw_p41 : lw_okq (⟨"HungPictures$Row", "answer", "(I)I"⟩, 14) := ⟨⟨by decide +kernel, by decide +kernel⟩, List.mem_of_getElem? (i := 181) (by decide +kernel), List.mem_of_getElem? (i := 617) (by decide +kernel), List.mem_of_getElem? (i := 618) (by decide +kernel)⟩
theorem lw_p42 : lw_okq (⟨"HungPictures$Row", "pictureAt", "(I)I"⟩, 14) := ⟨⟨by decide +kernel, by decide +kernel⟩, List.mem_of_getElem? (i := 181) (by decide +kernel), List.mem_of_getElem? (i := 621) (by decide +kernel), List.mem_of_getElem? (i := 622) (by decide +kernel)⟩
theorem lw_p43 : lw_okq (⟨"HungPictures", "countPlaces", "(I)I"⟩, 12) := ⟨⟨by decide +kernel, by decide +kernel⟩, List.mem_of_getElem? (i := 18) (by decide +kernel), List.mem_of_getElem? (i := 629) (by decide +kernel), List.mem_of_getElem? (i := 630) (by decide +kernel)⟩
theorem lw_p44 : lw_okq (⟨"HungPictures", "leastPlace", "(IZ)I"⟩, 12) := ⟨⟨by decide +kernel, by decide +kernel⟩, List.mem_of_getElem? (i := 18) (by decide +kernel), List.mem_of_getElem? (i := 633) (by decide +kernel), List.mem_of_getElem? (i := 634) (by decide +kernel)⟩
theorem lw_p45 : lw_okq (⟨"HungPictures", "calmestPlace", "(I)I"⟩, 12) := ⟨⟨by decide +kernel, by decide +kernel⟩, List.mem_of_getElem? (i := 18) (by decide +kernel), List.mem_of_getElem? (i := 637) (by decide +kernel), List.mem_of_getElem? (i := 638) (by decide +kernel)⟩
theorem lw_p46 : lw_okq (⟨"HungPictures$Crowd", "largestSet", "(LHungPictures$Wall;)I"⟩, 1) := ⟨⟨by decide +kernel, by decide +kernel⟩, List.mem_of_getElem? (i := 231) (by decide +kernel), List.mem_of_getElem? (i := 646) (by decide +kernel), List.mem_of_getElem? (i := 647) (by decide +kernel)⟩
theorem lw_p47 : lw_okq (⟨"HungPictures$Crowd", "leastEnd", "(LHungPictures$Wall;I)I"⟩, 1) := ⟨⟨by decide +kernel, by decide +kernel⟩, List.mem_of_getElem? (i := 231) (by decide +kernel), List.mem_of_getElem? (i := 650) (by decide +kernel), List.mem_of_getElem? (i := 651) (by decide +kernel)⟩
def lw_privs_3 : List (MethodName × Nat) := [(⟨"HungPictures$Wall", "takeAllDown", "()V"⟩, 15), (⟨"HungPictures$Past", "giveLatestTo", "(LHungPictures$Wall;)Z"⟩, 2), (⟨"HungPictures$Wall", "hasDoor", "(I)Z"⟩, 15), (⟨"HungPictures$Wall", "momentNow", "()I"⟩, 15), (⟨"HungPictures$Wall", "momentAt", "(II)I"⟩, 15), (⟨"HungPictures$Row", "search", "(LHungPictures$Wall;)V"⟩, 14), (⟨"HungPictures$Row", "markPlaces", "(LHungPictures$Wall;I)V"⟩, 14), (⟨"HungPictures$Row", "tryAllGaps", "(LHungPictures$Wall;I)V"⟩, 14), (⟨"HungPictures$Row", "takeIfBetter", "(II)V"⟩, 14), (⟨"HungPictures$Row", "answer", "(I)I"⟩, 14), (⟨"HungPictures$Row", "pictureAt", "(I)I"⟩, 14), (⟨"HungPictures", "countPlaces", "(I)I"⟩, 12), (⟨"HungPictures", "leastPlace", "(IZ)I"⟩, 12), (⟨"HungPictures", "calmestPlace", "(I)I"⟩, 12), (⟨"HungPictures$Crowd", "largestSet", "(LHungPictures$Wall;)I"⟩, 1), (⟨"HungPictures$Crowd", "leastEnd", "(LHungPictures$Wall;I)I"⟩, 1)]
theorem lw_r3 : ∀ q ∈ lw_privs_3, lw_okq q := List.forall_mem_cons.mpr ⟨lw_p32, List.forall_mem_cons.mpr ⟨lw_p33, List.forall_mem_cons.mpr ⟨lw_p34, List.forall_mem_cons.mpr ⟨lw_p35, List.forall_mem_cons.mpr ⟨lw_p36, List.forall_mem_cons.mpr ⟨lw_p37, List.forall_mem_cons.mpr ⟨lw_p38, List.forall_mem_cons.mpr ⟨lw_p39, List.forall_mem_cons.mpr ⟨lw_p40, List.forall_mem_cons.mpr ⟨lw_p41, List.forall_mem_cons.mpr ⟨lw_p42, List.forall_mem_cons.mpr ⟨lw_p43, List.forall_mem_cons.mpr ⟨lw_p44, List.forall_mem_cons.mpr ⟨lw_p45, List.forall_mem_cons.mpr ⟨lw_p46, List.forall_mem_cons.mpr ⟨lw_p47, fun _ h => absurd h List.not_mem_nil⟩⟩⟩⟩⟩⟩⟩⟩⟩⟩⟩⟩⟩⟩⟩⟩
theorem lw_p48 : lw_okq (⟨"HungPictures$Wall", "firstFit", "(II)I"⟩, 15) := ⟨⟨by decide +kernel, by decide +kernel⟩, List.mem_of_getElem? (i := 75) (by decide +kernel), List.mem_of_getElem? (i := 654) (by decide +kernel), List.mem_of_getElem? (i := 655) (by decide +kernel)⟩
theorem lw_p49 : lw_okq (⟨"HungPictures$Sights", "add", "(II)V"⟩, 3) := ⟨⟨by decide +kernel, by decide +kernel⟩, List.mem_of_getElem? (i := 241) (by decide +kernel), List.mem_of_getElem? (i := 675) (by decide +kernel), List.mem_of_getElem? (i := 676) (by decide +kernel)⟩
theorem lw_p50 : lw_okq (⟨"HungPictures$Sights", "countMatches", "(LHungPictures$Wall;)I"⟩, 3) := ⟨⟨by decide +kernel, by decide +kernel⟩, List.mem_of_getElem? (i := 241) (by decide +kernel), List.mem_of_getElem? (i := 687) (by decide +kernel), List.mem_of_getElem? (i := 688) (by decide +kernel)⟩
theorem lw_p51 : lw_okq (⟨"HungPictures$Sights", "matches", "(LHungPictures$Wall;I)Z"⟩, 3) := ⟨⟨by decide +kernel, by decide +kernel⟩, List.mem_of_getElem? (i := 241) (by decide +kernel), List.mem_of_getElem? (i := 691) (by decide +kernel), List.mem_of_getElem? (i := 692) (by decide +kernel)⟩
theorem lw_p52 : lw_okq (⟨"HungPictures$Sights", "leastMatch", "(LHungPictures$Wall;)I"⟩, 3) := ⟨⟨by decide +kernel, by decide +kernel⟩, List.mem_of_getElem? (i := 241) (by decide +kernel), List.mem_of_getElem? (i := 701) (by decide +kernel), List.mem_of_getElem? (i := 702) (by decide +kernel)⟩
theorem lw_p53 : lw_okq (⟨"HungPictures$Wall", "countUp", "()I"⟩, 15) := ⟨⟨by decide +kernel, by decide +kernel⟩, List.mem_of_getElem? (i := 75) (by decide +kernel), List.mem_of_getElem? (i := 709) (by decide +kernel), List.mem_of_getElem? (i := 710) (by decide +kernel)⟩
theorem lw_p54 : lw_okq (⟨"HungPicturesModel", "reads", "()I"⟩, 21) := ⟨⟨by decide +kernel, by decide +kernel⟩, List.mem_of_getElem? (i := 721) (by decide +kernel), List.mem_of_getElem? (i := 809) (by decide +kernel), List.mem_of_getElem? (i := 810) (by decide +kernel)⟩
theorem lw_p55 : lw_okq (⟨"HungPicturesModel", "skips", "()V"⟩, 21) := ⟨⟨by decide +kernel, by decide +kernel⟩, List.mem_of_getElem? (i := 721) (by decide +kernel), List.mem_of_getElem? (i := 813) (by decide +kernel), List.mem_of_getElem? (i := 814) (by decide +kernel)⟩
theorem lw_p56 : lw_okq (⟨"HungPicturesModel", "readsItem", "()Z"⟩, 21) := ⟨⟨by decide +kernel, by decide +kernel⟩, List.mem_of_getElem? (i := 721) (by decide +kernel), List.mem_of_getElem? (i := 817) (by decide +kernel), List.mem_of_getElem? (i := 818) (by decide +kernel)⟩
theorem lw_p57 : lw_okq (⟨"HungPicturesModel", "isAt", "(II)Z"⟩, 21) := ⟨⟨by decide +kernel, by decide +kernel⟩, List.mem_of_getElem? (i := 721) (by decide +kernel), List.mem_of_getElem? (i := 821) (by decide +kernel), List.mem_of_getElem? (i := 822) (by decide +kernel)⟩
theorem lw_p58 : lw_okq (⟨"HungPicturesModel", "spells", "(IIII)Z"⟩, 21) := ⟨⟨by decide +kernel, by decide +kernel⟩, List.mem_of_getElem? (i := 721) (by decide +kernel), List.mem_of_getElem? (i := 825) (by decide +kernel), List.mem_of_getElem? (i := 826) (by decide +kernel)⟩
theorem lw_p59 : lw_okq (⟨"HungPicturesModel", "readsWall", "()Z"⟩, 21) := ⟨⟨by decide +kernel, by decide +kernel⟩, List.mem_of_getElem? (i := 721) (by decide +kernel), List.mem_of_getElem? (i := 829) (by decide +kernel), List.mem_of_getElem? (i := 830) (by decide +kernel)⟩
theorem lw_p60 : lw_okq (⟨"HungPicturesModel", "puts", "(III)Z"⟩, 21) := ⟨⟨by decide +kernel, by decide +kernel⟩, List.mem_of_getElem? (i := 721) (by decide +kernel), List.mem_of_getElem? (i := 833) (by decide +kernel), List.mem_of_getElem? (i := 834) (by decide +kernel)⟩
theorem lw_p61 : lw_okq (⟨"HungPicturesModel", "readsPicture", "()Z"⟩, 21) := ⟨⟨by decide +kernel, by decide +kernel⟩, List.mem_of_getElem? (i := 721) (by decide +kernel), List.mem_of_getElem? (i := 837) (by decide +kernel), List.mem_of_getElem? (i := 838) (by decide +kernel)⟩
theorem lw_p62 : lw_okq (⟨"HungPicturesModel", "readsDoor", "()Z"⟩, 21) := ⟨⟨by decide +kernel, by decide +kernel⟩, List.mem_of_getElem? (i := 721) (by decide +kernel), List.mem_of_getElem? (i := 841) (by decide +kernel), List.mem_of_getElem? (i := 842) (by decide +kernel)⟩
theorem lw_p63 : lw_okq (⟨"HungPicturesModel", "readsHole", "()Z"⟩, 21) := ⟨⟨by decide +kernel, by decide +kernel⟩, List.mem_of_getElem? (i := 721) (by decide +kernel), List.mem_of_getElem? (i := 845) (by decide +kernel), List.mem_of_getElem? (i := 846) (by decide +kernel)⟩
def lw_privs_4 : List (MethodName × Nat) := [(⟨"HungPictures$Wall", "firstFit", "(II)I"⟩, 15), (⟨"HungPictures$Sights", "add", "(II)V"⟩, 3), (⟨"HungPictures$Sights", "countMatches", "(LHungPictures$Wall;)I"⟩, 3), (⟨"HungPictures$Sights", "matches", "(LHungPictures$Wall;I)Z"⟩, 3), (⟨"HungPictures$Sights", "leastMatch", "(LHungPictures$Wall;)I"⟩, 3), (⟨"HungPictures$Wall", "countUp", "()I"⟩, 15), (⟨"HungPicturesModel", "reads", "()I"⟩, 21), (⟨"HungPicturesModel", "skips", "()V"⟩, 21), (⟨"HungPicturesModel", "readsItem", "()Z"⟩, 21), (⟨"HungPicturesModel", "isAt", "(II)Z"⟩, 21), (⟨"HungPicturesModel", "spells", "(IIII)Z"⟩, 21), (⟨"HungPicturesModel", "readsWall", "()Z"⟩, 21), (⟨"HungPicturesModel", "puts", "(III)Z"⟩, 21), (⟨"HungPicturesModel", "readsPicture", "()Z"⟩, 21), (⟨"HungPicturesModel", "readsDoor", "()Z"⟩, 21), (⟨"HungPicturesModel", "readsHole", "()Z"⟩, 21)]
theorem lw_r4 : ∀ q ∈ lw_privs_4, lw_okq q := List.forall_mem_cons.mpr ⟨lw_p48, List.forall_mem_cons.mpr ⟨lw_p49, List.forall_mem_cons.mpr ⟨lw_p50, List.forall_mem_cons.mpr ⟨lw_p51, List.forall_mem_cons.mpr ⟨lw_p52, List.forall_mem_cons.mpr ⟨lw_p53, List.forall_mem_cons.mpr ⟨lw_p54, List.forall_mem_cons.mpr ⟨lw_p55, List.forall_mem_cons.mpr ⟨lw_p56, List.forall_mem_cons.mpr ⟨lw_p57, List.forall_mem_cons.mpr ⟨lw_p58, List.forall_mem_cons.mpr ⟨lw_p59, List.forall_mem_cons.mpr ⟨lw_p60, List.forall_mem_cons.mpr ⟨lw_p61, List.forall_mem_cons.mpr ⟨lw_p62, List.forall_mem_cons.mpr ⟨lw_p63, fun _ h => absurd h List.not_mem_nil⟩⟩⟩⟩⟩⟩⟩⟩⟩⟩⟩⟩⟩⟩⟩⟩
theorem lw_p64 : lw_okq (⟨"HungPicturesModel", "passesEnd", "()Z"⟩, 21) := ⟨⟨by decide +kernel, by decide +kernel⟩, List.mem_of_getElem? (i := 721) (by decide +kernel), List.mem_of_getElem? (i := 849) (by decide +kernel), List.mem_of_getElem? (i := 850) (by decide +kernel)⟩
theorem lw_p65 : lw_okq (⟨"HungPicturesModel", "keeps", "()V"⟩, 21) := ⟨⟨by decide +kernel, by decide +kernel⟩, List.mem_of_getElem? (i := 721) (by decide +kernel), List.mem_of_getElem? (i := 853) (by decide +kernel), List.mem_of_getElem? (i := 854) (by decide +kernel)⟩
theorem lw_p66 : lw_okq (⟨"HungPicturesModel", "isPicture", "(I)Z"⟩, 21) := ⟨⟨by decide +kernel, by decide +kernel⟩, List.mem_of_getElem? (i := 721) (by decide +kernel), List.mem_of_getElem? (i := 861) (by decide +kernel), List.mem_of_getElem? (i := 862) (by decide +kernel)⟩
theorem lw_p67 : lw_okq (⟨"HungPicturesModel", "hangsNow", "(I)Z"⟩, 21) := ⟨⟨by decide +kernel, by decide +kernel⟩, List.mem_of_getElem? (i := 721) (by decide +kernel), List.mem_of_getElem? (i := 865) (by decide +kernel), List.mem_of_getElem? (i := 866) (by decide +kernel)⟩
theorem lw_p68 : lw_okq (⟨"HungPicturesModel", "doesFit", "(II)Z"⟩, 21) := ⟨⟨by decide +kernel, by decide +kernel⟩, List.mem_of_getElem? (i := 721) (by decide +kernel), List.mem_of_getElem? (i := 869) (by decide +kernel), List.mem_of_getElem? (i := 870) (by decide +kernel)⟩
theorem lw_p69 : lw_okq (⟨"HungPicturesModel", "ofPicture", "(II)I"⟩, 21) := ⟨⟨by decide +kernel, by decide +kernel⟩, List.mem_of_getElem? (i := 721) (by decide +kernel), List.mem_of_getElem? (i := 873) (by decide +kernel), List.mem_of_getElem? (i := 874) (by decide +kernel)⟩
theorem lw_p70 : lw_okq (⟨"HungPicturesModel", "isApart", "(II)Z"⟩, 21) := ⟨⟨by decide +kernel, by decide +kernel⟩, List.mem_of_getElem? (i := 721) (by decide +kernel), List.mem_of_getElem? (i := 877) (by decide +kernel), List.mem_of_getElem? (i := 878) (by decide +kernel)⟩
theorem lw_p71 : lw_okq (⟨"HungPicturesModel", "hasHole", "(II)Z"⟩, 21) := ⟨⟨by decide +kernel, by decide +kernel⟩, List.mem_of_getElem? (i := 721) (by decide +kernel), List.mem_of_getElem? (i := 881) (by decide +kernel), List.mem_of_getElem? (i := 882) (by decide +kernel)⟩
theorem lw_p72 : lw_okq (⟨"HungPicturesModel", "hookX", "(II)I"⟩, 21) := ⟨⟨by decide +kernel, by decide +kernel⟩, List.mem_of_getElem? (i := 721) (by decide +kernel), List.mem_of_getElem? (i := 885) (by decide +kernel), List.mem_of_getElem? (i := 886) (by decide +kernel)⟩
theorem lw_p73 : lw_okq (⟨"HungPicturesModel", "hookY", "(I)I"⟩, 21) := ⟨⟨by decide +kernel, by decide +kernel⟩, List.mem_of_getElem? (i := 721) (by decide +kernel), List.mem_of_getElem? (i := 889) (by decide +kernel), List.mem_of_getElem? (i := 890) (by decide +kernel)⟩
theorem lw_p74 : lw_okq (⟨"HungPicturesModel", "holeAt", "(II)I"⟩, 21) := ⟨⟨by decide +kernel, by decide +kernel⟩, List.mem_of_getElem? (i := 721) (by decide +kernel), List.mem_of_getElem? (i := 893) (by decide +kernel), List.mem_of_getElem? (i := 894) (by decide +kernel)⟩
theorem lw_p75 : lw_okq (⟨"HungPicturesModel", "isHole", "(I)Z"⟩, 21) := ⟨⟨by decide +kernel, by decide +kernel⟩, List.mem_of_getElem? (i := 721) (by decide +kernel), List.mem_of_getElem? (i := 905) (by decide +kernel), List.mem_of_getElem? (i := 906) (by decide +kernel)⟩
theorem lw_p76 : lw_okq (⟨"HungPicturesModel", "hangingAt", "(I)I"⟩, 21) := ⟨⟨by decide +kernel, by decide +kernel⟩, List.mem_of_getElem? (i := 721) (by decide +kernel), List.mem_of_getElem? (i := 909) (by decide +kernel), List.mem_of_getElem? (i := 910) (by decide +kernel)⟩
theorem lw_p77 : lw_okq (⟨"HungPicturesModel", "momentNow", "()I"⟩, 21) := ⟨⟨by decide +kernel, by decide +kernel⟩, List.mem_of_getElem? (i := 721) (by decide +kernel), List.mem_of_getElem? (i := 938) (by decide +kernel), List.mem_of_getElem? (i := 939) (by decide +kernel)⟩
theorem lw_p78 : lw_okq (⟨"HungPicturesModel", "leanOf", "(II)I"⟩, 21) := ⟨⟨by decide +kernel, by decide +kernel⟩, List.mem_of_getElem? (i := 721) (by decide +kernel), List.mem_of_getElem? (i := 942) (by decide +kernel), List.mem_of_getElem? (i := 943) (by decide +kernel)⟩
theorem lw_p79 : lw_okq (⟨"HungPicturesModel", "findsBest", "()V"⟩, 21) := ⟨⟨by decide +kernel, by decide +kernel⟩, List.mem_of_getElem? (i := 721) (by decide +kernel), List.mem_of_getElem? (i := 953) (by decide +kernel), List.mem_of_getElem? (i := 954) (by decide +kernel)⟩
def lw_privs_5 : List (MethodName × Nat) := [(⟨"HungPicturesModel", "passesEnd", "()Z"⟩, 21), (⟨"HungPicturesModel", "keeps", "()V"⟩, 21), (⟨"HungPicturesModel", "isPicture", "(I)Z"⟩, 21), (⟨"HungPicturesModel", "hangsNow", "(I)Z"⟩, 21), (⟨"HungPicturesModel", "doesFit", "(II)Z"⟩, 21), (⟨"HungPicturesModel", "ofPicture", "(II)I"⟩, 21), (⟨"HungPicturesModel", "isApart", "(II)Z"⟩, 21), (⟨"HungPicturesModel", "hasHole", "(II)Z"⟩, 21), (⟨"HungPicturesModel", "hookX", "(II)I"⟩, 21), (⟨"HungPicturesModel", "hookY", "(I)I"⟩, 21), (⟨"HungPicturesModel", "holeAt", "(II)I"⟩, 21), (⟨"HungPicturesModel", "isHole", "(I)Z"⟩, 21), (⟨"HungPicturesModel", "hangingAt", "(I)I"⟩, 21), (⟨"HungPicturesModel", "momentNow", "()I"⟩, 21), (⟨"HungPicturesModel", "leanOf", "(II)I"⟩, 21), (⟨"HungPicturesModel", "findsBest", "()V"⟩, 21)]
theorem lw_r5 : ∀ q ∈ lw_privs_5, lw_okq q := List.forall_mem_cons.mpr ⟨lw_p64, List.forall_mem_cons.mpr ⟨lw_p65, List.forall_mem_cons.mpr ⟨lw_p66, List.forall_mem_cons.mpr ⟨lw_p67, List.forall_mem_cons.mpr ⟨lw_p68, List.forall_mem_cons.mpr ⟨lw_p69, List.forall_mem_cons.mpr ⟨lw_p70, List.forall_mem_cons.mpr ⟨lw_p71, List.forall_mem_cons.mpr ⟨lw_p72, List.forall_mem_cons.mpr ⟨lw_p73, List.forall_mem_cons.mpr ⟨lw_p74, List.forall_mem_cons.mpr ⟨lw_p75, List.forall_mem_cons.mpr ⟨lw_p76, List.forall_mem_cons.mpr ⟨lw_p77, List.forall_mem_cons.mpr ⟨lw_p78, List.forall_mem_cons.mpr ⟨lw_p79, fun _ h => absurd h List.not_mem_nil⟩⟩⟩⟩⟩⟩⟩⟩⟩⟩⟩⟩⟩⟩⟩⟩
theorem lw_p80 : lw_okq (⟨"HungPicturesModel", "laysPlaces", "()V"⟩, 21) := ⟨⟨by decide +kernel, by decide +kernel⟩, List.mem_of_getElem? (i := 721) (by decide +kernel), List.mem_of_getElem? (i := 957) (by decide +kernel), List.mem_of_getElem? (i := 958) (by decide +kernel)⟩
theorem lw_p81 : lw_okq (⟨"HungPicturesModel", "isOrder", "(I)Z"⟩, 21) := ⟨⟨by decide +kernel, by decide +kernel⟩, List.mem_of_getElem? (i := 721) (by decide +kernel), List.mem_of_getElem? (i := 961) (by decide +kernel), List.mem_of_getElem? (i := 962) (by decide +kernel)⟩
theorem lw_p82 : lw_okq (⟨"HungPicturesModel", "tries", "(II)V"⟩, 21) := ⟨⟨by decide +kernel, by decide +kernel⟩, List.mem_of_getElem? (i := 721) (by decide +kernel), List.mem_of_getElem? (i := 965) (by decide +kernel), List.mem_of_getElem? (i := 966) (by decide +kernel)⟩
theorem lw_p83 : lw_okq (⟨"HungPicturesModel", "tellPlaces", "(II)I"⟩, 21) := ⟨⟨by decide +kernel, by decide +kernel⟩, List.mem_of_getElem? (i := 721) (by decide +kernel), List.mem_of_getElem? (i := 973) (by decide +kernel), List.mem_of_getElem? (i := 974) (by decide +kernel)⟩
theorem lw_p84 : lw_okq (⟨"HungPicturesModel", "reachOf", "(I)I"⟩, 21) := ⟨⟨by decide +kernel, by decide +kernel⟩, List.mem_of_getElem? (i := 721) (by decide +kernel), List.mem_of_getElem? (i := 981) (by decide +kernel), List.mem_of_getElem? (i := 982) (by decide +kernel)⟩
theorem lw_p85 : lw_okq (⟨"HungPicturesModel", "isSeen", "(I)Z"⟩, 21) := ⟨⟨by decide +kernel, by decide +kernel⟩, List.mem_of_getElem? (i := 721) (by decide +kernel), List.mem_of_getElem? (i := 1000) (by decide +kernel), List.mem_of_getElem? (i := 1001) (by decide +kernel)⟩
theorem lw_p86 : lw_okq (⟨"HungPicturesModel", "hanging", "()I"⟩, 21) := ⟨⟨by decide +kernel, by decide +kernel⟩, List.mem_of_getElem? (i := 721) (by decide +kernel), List.mem_of_getElem? (i := 1008) (by decide +kernel), List.mem_of_getElem? (i := 1009) (by decide +kernel)⟩
def lw_privs_6 : List (MethodName × Nat) := [(⟨"HungPicturesModel", "laysPlaces", "()V"⟩, 21), (⟨"HungPicturesModel", "isOrder", "(I)Z"⟩, 21), (⟨"HungPicturesModel", "tries", "(II)V"⟩, 21), (⟨"HungPicturesModel", "tellPlaces", "(II)I"⟩, 21), (⟨"HungPicturesModel", "reachOf", "(I)I"⟩, 21), (⟨"HungPicturesModel", "isSeen", "(I)Z"⟩, 21), (⟨"HungPicturesModel", "hanging", "()I"⟩, 21)]
theorem lw_r6 : ∀ q ∈ lw_privs_6, lw_okq q := List.forall_mem_cons.mpr ⟨lw_p80, List.forall_mem_cons.mpr ⟨lw_p81, List.forall_mem_cons.mpr ⟨lw_p82, List.forall_mem_cons.mpr ⟨lw_p83, List.forall_mem_cons.mpr ⟨lw_p84, List.forall_mem_cons.mpr ⟨lw_p85, List.forall_mem_cons.mpr ⟨lw_p86, fun _ h => absurd h List.not_mem_nil⟩⟩⟩⟩⟩⟩⟩
def lw_privs : List (MethodName × Nat) := lw_privs_1 ++ (lw_privs_2 ++ (lw_privs_3 ++ (lw_privs_4 ++ (lw_privs_5 ++ (lw_privs_6)))))
def lw_tbl : List Cond := k2_sels lw_privs ++ tables_1
theorem lw_privs_ok : ∀ q ∈ lw_privs, lw_okq q := by
  show ∀ q ∈ lw_privs_1 ++ (lw_privs_2 ++ (lw_privs_3 ++ (lw_privs_4 ++ (lw_privs_5 ++ (lw_privs_6))))), lw_okq q
  exact List.forall_mem_append.mpr ⟨lw_r1, List.forall_mem_append.mpr ⟨lw_r2, List.forall_mem_append.mpr ⟨lw_r3, List.forall_mem_append.mpr ⟨lw_r4, List.forall_mem_append.mpr ⟨lw_r5, lw_r6⟩⟩⟩⟩⟩
end
section
/-! ===== BEGIN words of one list among another's, by their places ===== -/
theorem goodIn_r {big : List Cond} (ws : List Cond) (ps : List Nat) (hp : ws = ps.filterMap (fun i => big[i]?)) (h : ws.all goodWord = true) : GoodIn big ws := by
  intro w hw
  have h1 := List.all_eq_true.mp h w hw
  rw [hp] at hw
  obtain ⟨i, -, hi⟩ := List.mem_filterMap.mp hw
  have hm : w ∈ big := by first | exact List.mem_of_getElem? hi | exact List.getElem?_mem hi
  exact ⟨hm, good_of_word h1⟩
theorem goodIn_app {big a b : List Cond} (ha : GoodIn big a) (hb : GoodIn big b) : GoodIn big (a ++ b) := fun w h => (List.mem_append.mp h).elim (ha w) (hb w)
theorem goodIn_ca {big a b : List Cond} {c : Cond} (ha : GoodIn big (c :: a)) (hb : GoodIn big b) : GoodIn big (c :: (a ++ b)) := fun w h => (List.mem_cons.mp h).elim (fun e => ha w (List.mem_cons.mpr (Or.inl e))) (fun h => (List.mem_append.mp h).elim (fun h => ha w (List.mem_cons.mpr (Or.inr h))) (hb w))
theorem goodIn_sub {big ws : List Cond} (hm : ∀ w ∈ ws, w ∈ big) (h : ws.all goodWord = true) : GoodIn big ws := fun w hw => ⟨hm w hw, good_of_word (List.all_eq_true.mp h w hw)⟩
/-! ===== END ===== -/

/-! ===== BEGIN printed: names, fields, word lists, decode rows ===== -/
def RX0 : String := "HungPictures$Crowd"
def TX0 : u_T := fun k => match k with
  | _ => ("HungPictures$Crowd", "ends", "[I", true)
def tyX0 : Nat → FieldType := fun k => match k with
  | _ => .array .int
abbrev wsX00 : List Cond := u_ws RX0 TX0 1
theorem nmX0 : ∀ a, a < 1 → ∀ b, b < 1 → a ≠ b → (TX0 a).2.1 ≠ (TX0 b).2.1 := by decide +kernel
theorem tyX0_ok : ∀ k, k < 1 → parseFieldDescriptor (TX0 k).2.2.1 = some (tyX0 k) := by decide +kernel
abbrev cX0_init : ByteArray := prog_2_method_1_code
def yX0_init : MethodName := ⟨RX0, "<init>", "()V"⟩
abbrev cX0_largestSet : ByteArray := prog_2_method_2_code
def yX0_largestSet : MethodName := ⟨RX0, "largestSet", "(LHungPictures$Wall;)I"⟩
abbrev cX0_leastEnd : ByteArray := prog_2_method_3_code
def yX0_leastEnd : MethodName := ⟨RX0, "leastEnd", "(LHungPictures$Wall;I)I"⟩
abbrev cX0_isBetter : ByteArray := prog_2_method_4_code
def yX0_isBetter : MethodName := ⟨RX0, "isBetter", "(LHungPictures$Wall;II)Z"⟩
abbrev cX0_weightOf : ByteArray := prog_2_method_5_code
def yX0_weightOf : MethodName := ⟨RX0, "weightOf", "(LHungPictures$Wall;I)I"⟩
def RX1 : String := "HungPictures$Past"
def TX1 : u_T := fun k => match k with
  | 0 => ("HungPictures$Past", "walls", "[LHungPictures$Wall;", true)
  | _ => ("HungPictures$Past", "known", "I", false)
def tyX1 : Nat → FieldType := fun k => match k with
  | 0 => .array (.object "HungPictures$Wall")
  | _ => .int
abbrev wsX10 : List Cond := u_ws RX1 TX1 2
theorem nmX1 : ∀ a, a < 2 → ∀ b, b < 2 → a ≠ b → (TX1 a).2.1 ≠ (TX1 b).2.1 := by decide +kernel
theorem tyX1_ok : ∀ k, k < 2 → parseFieldDescriptor (TX1 k).2.2.1 = some (tyX1 k) := by decide +kernel
abbrev cX1_init : ByteArray := prog_3_method_1_code
def yX1_init : MethodName := ⟨RX1, "<init>", "()V"⟩
abbrev cX1_add : ByteArray := prog_3_method_2_code
def yX1_add : MethodName := ⟨RX1, "add", "(LHungPictures$Wall;)V"⟩
abbrev cX1_loseOldest : ByteArray := prog_3_method_3_code
def yX1_loseOldest : MethodName := ⟨RX1, "loseOldest", "()V"⟩
abbrev cX1_giveLatestTo : ByteArray := prog_3_method_4_code
def yX1_giveLatestTo : MethodName := ⟨RX1, "giveLatestTo", "(LHungPictures$Wall;)Z"⟩
def RX2 : String := "HungPictures$Reader"
def TX2 : u_T := fun k => match k with
  | 0 => ("HungPictures$Reader", "tokens", "LHungPictures$Tokens;", true)
  | 1 => ("HungPictures$Reader", "next", "I", false)
  | 2 => ("HungPictures$Reader", "kind", "I", false)
  | 3 => ("HungPictures$Reader", "place", "I", false)
  | 4 => ("HungPictures$Reader", "value", "I", false)
  | _ => ("HungPictures$Reader", "wallTold", "Z", false)
def tyX2 : Nat → FieldType := fun k => match k with
  | 0 => .object "HungPictures$Tokens"
  | 1 => .int
  | 2 => .int
  | 3 => .int
  | 4 => .int
  | _ => .boolean
abbrev wsX20 : List Cond := u_ws RX2 TX2 6
theorem nmX2 : ∀ a, a < 6 → ∀ b, b < 6 → a ≠ b → (TX2 a).2.1 ≠ (TX2 b).2.1 := by decide +kernel
theorem tyX2_ok : ∀ k, k < 6 → parseFieldDescriptor (TX2 k).2.2.1 = some (tyX2 k) := by decide +kernel
abbrev cX2_init : ByteArray := prog_4_method_1_code
def yX2_init : MethodName := ⟨RX2, "<init>", "()V"⟩
abbrev cX2_readInto : ByteArray := prog_4_method_2_code
def yX2_readInto : MethodName := ⟨RX2, "readInto", "(LHungPictures$Wall;[II)I"⟩
abbrev cX2_readToken : ByteArray := prog_4_method_3_code
def yX2_readToken : MethodName := ⟨RX2, "readToken", "()V"⟩
abbrev cX2_readSemicolon : ByteArray := prog_4_method_4_code
def yX2_readSemicolon : MethodName := ⟨RX2, "readSemicolon", "()Z"⟩
abbrev cX2_readNumber : ByteArray := prog_4_method_5_code
def yX2_readNumber : MethodName := ⟨RX2, "readNumber", "(II)Z"⟩
abbrev cX2_readItem : ByteArray := prog_4_method_6_code
def yX2_readItem : MethodName := ⟨RX2, "readItem", "(LHungPictures$Wall;)Z"⟩
abbrev cX2_readWall : ByteArray := prog_4_method_7_code
def yX2_readWall : MethodName := ⟨RX2, "readWall", "(LHungPictures$Wall;)Z"⟩
abbrev cX2_readPicture : ByteArray := prog_4_method_8_code
def yX2_readPicture : MethodName := ⟨RX2, "readPicture", "(LHungPictures$Wall;)Z"⟩
abbrev cX2_readDoor : ByteArray := prog_4_method_9_code
def yX2_readDoor : MethodName := ⟨RX2, "readDoor", "(LHungPictures$Wall;)Z"⟩
abbrev cX2_readHole : ByteArray := prog_4_method_10_code
def yX2_readHole : MethodName := ⟨RX2, "readHole", "(LHungPictures$Wall;)Z"⟩
def RX3 : String := "HungPictures$Row"
def TX3 : u_T := fun k => match k with
  | 0 => ("HungPictures$Row", "fitting", "[J", true)
  | 1 => ("HungPictures$Row", "holed", "[J", true)
  | 2 => ("HungPictures$Row", "tried", "[I", true)
  | 3 => ("HungPictures$Row", "order", "[I", true)
  | 4 => ("HungPictures$Row", "triedGap", "I", false)
  | 5 => ("HungPictures$Row", "triedFirst", "I", false)
  | 6 => ("HungPictures$Row", "size", "I", false)
  | 7 => ("HungPictures$Row", "leastBare", "I", false)
  | 8 => ("HungPictures$Row", "leastOff", "I", false)
  | 9 => ("HungPictures$Row", "found", "Z", false)
  | 10 => ("HungPictures$Row", "bare", "I", false)
  | 11 => ("HungPictures$Row", "off", "I", false)
  | 12 => ("HungPictures$Row", "gap", "I", false)
  | _ => ("HungPictures$Row", "first", "I", false)
def tyX3 : Nat → FieldType := fun k => match k with
  | 0 => .array .long
  | 1 => .array .long
  | 2 => .array .int
  | 3 => .array .int
  | 4 => .int
  | 5 => .int
  | 6 => .int
  | 7 => .int
  | 8 => .int
  | 9 => .boolean
  | 10 => .int
  | 11 => .int
  | 12 => .int
  | _ => .int
abbrev wsX30 : List Cond := u_ws RX3 TX3 14
theorem nmX3 : ∀ a, a < 14 → ∀ b, b < 14 → a ≠ b → (TX3 a).2.1 ≠ (TX3 b).2.1 := by decide +kernel
theorem tyX3_ok : ∀ k, k < 14 → parseFieldDescriptor (TX3 k).2.2.1 = some (tyX3 k) := by decide +kernel
abbrev cX3_init : ByteArray := prog_5_method_1_code
def yX3_init : MethodName := ⟨RX3, "<init>", "()V"⟩
abbrev cX3_answer : ByteArray := prog_5_method_2_code
def yX3_answer : MethodName := ⟨RX3, "answer", "(I)I"⟩
abbrev cX3_pictureAt : ByteArray := prog_5_method_3_code
def yX3_pictureAt : MethodName := ⟨RX3, "pictureAt", "(I)I"⟩
abbrev cX3_search : ByteArray := prog_5_method_4_code
def yX3_search : MethodName := ⟨RX3, "search", "(LHungPictures$Wall;)V"⟩
abbrev cX3_markPlaces : ByteArray := prog_5_method_5_code
def yX3_markPlaces : MethodName := ⟨RX3, "markPlaces", "(LHungPictures$Wall;I)V"⟩
abbrev cX3_tryAllGaps : ByteArray := prog_5_method_6_code
def yX3_tryAllGaps : MethodName := ⟨RX3, "tryAllGaps", "(LHungPictures$Wall;I)V"⟩
abbrev cX3_tryOrders : ByteArray := prog_5_method_7_code
def yX3_tryOrders : MethodName := ⟨RX3, "tryOrders", "(LHungPictures$Row;LHungPictures$Wall;IIIII)V"⟩
abbrev cX3_takeIfBetter : ByteArray := prog_5_method_8_code
def yX3_takeIfBetter : MethodName := ⟨RX3, "takeIfBetter", "(II)V"⟩
abbrev cX3_isMarked : ByteArray := prog_5_method_9_code
def yX3_isMarked : MethodName := ⟨RX3, "isMarked", "(JI)Z"⟩
def RX4 : String := "HungPictures$Sights"
def TX4 : u_T := fun k => match k with
  | 0 => ("HungPictures$Sights", "whats", "[I", true)
  | 1 => ("HungPictures$Sights", "numbers", "[I", true)
  | _ => ("HungPictures$Sights", "size", "I", false)
def tyX4 : Nat → FieldType := fun k => match k with
  | 0 => .array .int
  | 1 => .array .int
  | _ => .int
abbrev wsX40 : List Cond := u_ws RX4 TX4 3
theorem nmX4 : ∀ a, a < 3 → ∀ b, b < 3 → a ≠ b → (TX4 a).2.1 ≠ (TX4 b).2.1 := by decide +kernel
theorem tyX4_ok : ∀ k, k < 3 → parseFieldDescriptor (TX4 k).2.2.1 = some (tyX4 k) := by decide +kernel
abbrev cX4_init : ByteArray := prog_6_method_1_code
def yX4_init : MethodName := ⟨RX4, "<init>", "()V"⟩
abbrev cX4_add : ByteArray := prog_6_method_2_code
def yX4_add : MethodName := ⟨RX4, "add", "(II)V"⟩
abbrev cX4_countMatches : ByteArray := prog_6_method_3_code
def yX4_countMatches : MethodName := ⟨RX4, "countMatches", "(LHungPictures$Wall;)I"⟩
abbrev cX4_leastMatch : ByteArray := prog_6_method_4_code
def yX4_leastMatch : MethodName := ⟨RX4, "leastMatch", "(LHungPictures$Wall;)I"⟩
abbrev cX4_matches : ByteArray := prog_6_method_5_code
def yX4_matches : MethodName := ⟨RX4, "matches", "(LHungPictures$Wall;I)Z"⟩
abbrev cX4_measured : ByteArray := prog_6_method_6_code
def yX4_measured : MethodName := ⟨RX4, "measured", "(LHungPictures$Wall;II)I"⟩
def RX5 : String := "HungPictures$Tokens"
def TX5 : u_T := fun k => match k with
  | 0 => ("HungPictures$Tokens", "kinds", "[I", true)
  | 1 => ("HungPictures$Tokens", "places", "[I", true)
  | 2 => ("HungPictures$Tokens", "values", "[I", true)
  | _ => ("HungPictures$Tokens", "size", "I", false)
def tyX5 : Nat → FieldType := fun k => match k with
  | 0 => .array .int
  | 1 => .array .int
  | 2 => .array .int
  | _ => .int
abbrev wsX50 : List Cond := u_ws RX5 TX5 4
theorem nmX5 : ∀ a, a < 4 → ∀ b, b < 4 → a ≠ b → (TX5 a).2.1 ≠ (TX5 b).2.1 := by decide +kernel
theorem tyX5_ok : ∀ k, k < 4 → parseFieldDescriptor (TX5 k).2.2.1 = some (tyX5 k) := by decide +kernel
abbrev cX5_init : ByteArray := prog_7_method_1_code
def yX5_init : MethodName := ⟨RX5, "<init>", "()V"⟩
abbrev cX5_cut : ByteArray := prog_7_method_2_code
def yX5_cut : MethodName := ⟨RX5, "cut", "([II)V"⟩
abbrev cX5_add : ByteArray := prog_7_method_3_code
def yX5_add : MethodName := ⟨RX5, "add", "(III)V"⟩
abbrev cX5_endOfToken : ByteArray := prog_7_method_4_code
def yX5_endOfToken : MethodName := ⟨RX5, "endOfToken", "([III)I"⟩
abbrev cX5_sortAt : ByteArray := prog_7_method_5_code
def yX5_sortAt : MethodName := ⟨RX5, "sortAt", "([II)I"⟩
abbrev cX5_kindOf : ByteArray := prog_7_method_6_code
def yX5_kindOf : MethodName := ⟨RX5, "kindOf", "([III)I"⟩
abbrev cX5_kindOfFigures : ByteArray := prog_7_method_7_code
def yX5_kindOfFigures : MethodName := ⟨RX5, "kindOfFigures", "([III)I"⟩
abbrev cX5_kindOfWord : ByteArray := prog_7_method_8_code
def yX5_kindOfWord : MethodName := ⟨RX5, "kindOfWord", "([III)I"⟩
abbrev cX5_spells : ByteArray := prog_7_method_9_code
def yX5_spells : MethodName := ⟨RX5, "spells", "([IIILjava/lang/String;)Z"⟩
abbrev cX5_valueOf : ByteArray := prog_7_method_10_code
def yX5_valueOf : MethodName := ⟨RX5, "valueOf", "([III)I"⟩
def RX6 : String := "HungPictures$Wall"
def TX6 : u_T := fun k => match k with
  | 0 => ("HungPictures$Wall", "width", "I", false)
  | 1 => ("HungPictures$Wall", "line", "I", false)
  | 2 => ("HungPictures$Wall", "gap", "I", false)
  | 3 => ("HungPictures$Wall", "pictures", "I", false)
  | 4 => ("HungPictures$Wall", "doors", "I", false)
  | 5 => ("HungPictures$Wall", "holes", "I", false)
  | 6 => ("HungPictures$Wall", "wide", "[I", true)
  | 7 => ("HungPictures$Wall", "tall", "[I", true)
  | 8 => ("HungPictures$Wall", "drop", "[I", true)
  | 9 => ("HungPictures$Wall", "weight", "[I", true)
  | 10 => ("HungPictures$Wall", "at", "[I", true)
  | 11 => ("HungPictures$Wall", "from", "[I", true)
  | 12 => ("HungPictures$Wall", "to", "[I", true)
  | 13 => ("HungPictures$Wall", "holeX", "[I", true)
  | _ => ("HungPictures$Wall", "holeY", "[I", true)
def tyX6 : Nat → FieldType := fun k => match k with
  | 0 => .int
  | 1 => .int
  | 2 => .int
  | 3 => .int
  | 4 => .int
  | 5 => .int
  | 6 => .array .int
  | 7 => .array .int
  | 8 => .array .int
  | 9 => .array .int
  | 10 => .array .int
  | 11 => .array .int
  | 12 => .array .int
  | 13 => .array .int
  | _ => .array .int
abbrev wsX60 : List Cond := u_ws RX6 TX6 15
theorem nmX6 : ∀ a, a < 15 → ∀ b, b < 15 → a ≠ b → (TX6 a).2.1 ≠ (TX6 b).2.1 := by decide +kernel
theorem tyX6_ok : ∀ k, k < 15 → parseFieldDescriptor (TX6 k).2.2.1 = some (tyX6 k) := by decide +kernel
abbrev cX6_init : ByteArray := prog_8_method_1_code
def yX6_init : MethodName := ⟨RX6, "<init>", "()V"⟩
abbrev cX6_makeBare : ByteArray := prog_8_method_2_code
def yX6_makeBare : MethodName := ⟨RX6, "makeBare", "()V"⟩
abbrev cX6_copyFrom : ByteArray := prog_8_method_3_code
def yX6_copyFrom : MethodName := ⟨RX6, "copyFrom", "(LHungPictures$Wall;)V"⟩
abbrev cX6_addPicture : ByteArray := prog_8_method_4_code
def yX6_addPicture : MethodName := ⟨RX6, "addPicture", "(IIII)V"⟩
abbrev cX6_addDoor : ByteArray := prog_8_method_5_code
def yX6_addDoor : MethodName := ⟨RX6, "addDoor", "(II)V"⟩
abbrev cX6_addHole : ByteArray := prog_8_method_6_code
def yX6_addHole : MethodName := ⟨RX6, "addHole", "(II)V"⟩
abbrev cX6_removeHole : ByteArray := prog_8_method_7_code
def yX6_removeHole : MethodName := ⟨RX6, "removeHole", "(I)V"⟩
abbrev cX6_hasPicture : ByteArray := prog_8_method_8_code
def yX6_hasPicture : MethodName := ⟨RX6, "hasPicture", "(I)Z"⟩
abbrev cX6_hasDoor : ByteArray := prog_8_method_9_code
def yX6_hasDoor : MethodName := ⟨RX6, "hasDoor", "(I)Z"⟩
abbrev cX6_hasHole : ByteArray := prog_8_method_10_code
def yX6_hasHole : MethodName := ⟨RX6, "hasHole", "(I)Z"⟩
abbrev cX6_isUp : ByteArray := prog_8_method_11_code
def yX6_isUp : MethodName := ⟨RX6, "isUp", "(I)Z"⟩
abbrev cX6_hookX : ByteArray := prog_8_method_12_code
def yX6_hookX : MethodName := ⟨RX6, "hookX", "(II)I"⟩
abbrev cX6_hookY : ByteArray := prog_8_method_13_code
def yX6_hookY : MethodName := ⟨RX6, "hookY", "(I)I"⟩
abbrev cX6_findHole : ByteArray := prog_8_method_14_code
def yX6_findHole : MethodName := ⟨RX6, "findHole", "(II)I"⟩
abbrev cX6_hasHoleFor : ByteArray := prog_8_method_15_code
def yX6_hasHoleFor : MethodName := ⟨RX6, "hasHoleFor", "(II)Z"⟩
abbrev cX6_findPictureOn : ByteArray := prog_8_method_16_code
def yX6_findPictureOn : MethodName := ⟨RX6, "findPictureOn", "(I)I"⟩
abbrev cX6_fits : ByteArray := prog_8_method_17_code
def yX6_fits : MethodName := ⟨RX6, "fits", "(II)Z"⟩
abbrev cX6_isApartFromAll : ByteArray := prog_8_method_18_code
def yX6_isApartFromAll : MethodName := ⟨RX6, "isApartFromAll", "(II)Z"⟩
abbrev cX6_isFreeFor : ByteArray := prog_8_method_19_code
def yX6_isFreeFor : MethodName := ⟨RX6, "isFreeFor", "(II)Z"⟩
abbrev cX6_putUp : ByteArray := prog_8_method_20_code
def yX6_putUp : MethodName := ⟨RX6, "putUp", "(II)V"⟩
abbrev cX6_takeAllDown : ByteArray := prog_8_method_21_code
def yX6_takeAllDown : MethodName := ⟨RX6, "takeAllDown", "()V"⟩
abbrev cX6_countUp : ByteArray := prog_8_method_22_code
def yX6_countUp : MethodName := ⟨RX6, "countUp", "()I"⟩
abbrev cX6_momentAt : ByteArray := prog_8_method_23_code
def yX6_momentAt : MethodName := ⟨RX6, "momentAt", "(II)I"⟩
abbrev cX6_momentNow : ByteArray := prog_8_method_24_code
def yX6_momentNow : MethodName := ⟨RX6, "momentNow", "()I"⟩
abbrev cX6_firstFit : ByteArray := prog_8_method_25_code
def yX6_firstFit : MethodName := ⟨RX6, "firstFit", "(II)I"⟩
def RX7 : String := "HungPictures"
def TX7 : u_T := fun k => match k with
  | 0 => ("HungPictures", "text", "[I", true)
  | 1 => ("HungPictures", "letters", "I", false)
  | 2 => ("HungPictures", "reader", "LHungPictures$Reader;", true)
  | 3 => ("HungPictures", "wall", "LHungPictures$Wall;", true)
  | 4 => ("HungPictures", "draft", "LHungPictures$Wall;", true)
  | 5 => ("HungPictures", "past", "LHungPictures$Past;", true)
  | 6 => ("HungPictures", "row", "LHungPictures$Row;", true)
  | 7 => ("HungPictures", "rowKnown", "Z", false)
  | 8 => ("HungPictures", "crowd", "LHungPictures$Crowd;", true)
  | 9 => ("HungPictures", "sights", "LHungPictures$Sights;", true)
  | 10 => ("HungPictures", "images", "[LHungPictures$Wall;", true)
  | _ => ("HungPictures", "imageKept", "[Z", true)
def tyX7 : Nat → FieldType := fun k => match k with
  | 0 => .array .int
  | 1 => .int
  | 2 => .object "HungPictures$Reader"
  | 3 => .object "HungPictures$Wall"
  | 4 => .object "HungPictures$Wall"
  | 5 => .object "HungPictures$Past"
  | 6 => .object "HungPictures$Row"
  | 7 => .boolean
  | 8 => .object "HungPictures$Crowd"
  | 9 => .object "HungPictures$Sights"
  | 10 => .array (.object "HungPictures$Wall")
  | _ => .array .boolean
abbrev wsX70 : List Cond := u_ws RX7 TX7 12
theorem nmX7 : ∀ a, a < 12 → ∀ b, b < 12 → a ≠ b → (TX7 a).2.1 ≠ (TX7 b).2.1 := by decide +kernel
theorem tyX7_ok : ∀ k, k < 12 → parseFieldDescriptor (TX7 k).2.2.1 = some (tyX7 k) := by decide +kernel
abbrev cX7_init : ByteArray := prog_1_method_1_code
def yX7_init : MethodName := ⟨RX7, "<init>", "()V"⟩
abbrev cX7_type : ByteArray := prog_1_method_2_code
def yX7_type : MethodName := ⟨RX7, "type", "(I)I"⟩
abbrev cX7_clear : ByteArray := prog_1_method_3_code
def yX7_clear : MethodName := ⟨RX7, "clear", "()I"⟩
abbrev cX7_tells : ByteArray := prog_1_method_4_code
def yX7_tells : MethodName := ⟨RX7, "tells", "()I"⟩
abbrev cX7_hangs : ByteArray := prog_1_method_5_code
def yX7_hangs : MethodName := ⟨RX7, "hangs", "(II)I"⟩
abbrev cX7_takes : ByteArray := prog_1_method_6_code
def yX7_takes : MethodName := ⟨RX7, "takes", "(I)I"⟩
abbrev cX7_fills : ByteArray := prog_1_method_7_code
def yX7_fills : MethodName := ⟨RX7, "fills", "(I)I"⟩
abbrev cX7_lines : ByteArray := prog_1_method_8_code
def yX7_lines : MethodName := ⟨RX7, "lines", "(I)I"⟩
abbrev cX7_undo : ByteArray := prog_1_method_9_code
def yX7_undo : MethodName := ⟨RX7, "undo", "()I"⟩
abbrev cX7_picture : ByteArray := prog_1_method_10_code
def yX7_picture : MethodName := ⟨RX7, "picture", "(II)I"⟩
abbrev cX7_hole : ByteArray := prog_1_method_11_code
def yX7_hole : MethodName := ⟨RX7, "hole", "(II)I"⟩
abbrev cX7_door : ByteArray := prog_1_method_12_code
def yX7_door : MethodName := ⟨RX7, "door", "(II)I"⟩
abbrev cX7_moment : ByteArray := prog_1_method_13_code
def yX7_moment : MethodName := ⟨RX7, "moment", "(I)I"⟩
abbrev cX7_best : ByteArray := prog_1_method_14_code
def yX7_best : MethodName := ⟨RX7, "best", "(I)I"⟩
abbrev cX7_places : ByteArray := prog_1_method_15_code
def yX7_places : MethodName := ⟨RX7, "places", "(II)I"⟩
abbrev cX7_most : ByteArray := prog_1_method_16_code
def yX7_most : MethodName := ⟨RX7, "most", "()I"⟩
abbrev cX7_sees : ByteArray := prog_1_method_17_code
def yX7_sees : MethodName := ⟨RX7, "sees", "(II)I"⟩
abbrev cX7_forget : ByteArray := prog_1_method_18_code
def yX7_forget : MethodName := ⟨RX7, "forget", "()I"⟩
abbrev cX7_which : ByteArray := prog_1_method_19_code
def yX7_which : MethodName := ⟨RX7, "which", "(I)I"⟩
abbrev cX7_keep : ByteArray := prog_1_method_20_code
def yX7_keep : MethodName := ⟨RX7, "keep", "(I)I"⟩
abbrev cX7_back : ByteArray := prog_1_method_21_code
def yX7_back : MethodName := ⟨RX7, "back", "(I)I"⟩
abbrev cX7_count : ByteArray := prog_1_method_22_code
def yX7_count : MethodName := ⟨RX7, "count", "(I)I"⟩
abbrev cX7_remember : ByteArray := prog_1_method_23_code
def yX7_remember : MethodName := ⟨RX7, "remember", "()V"⟩
abbrev cX7_countPlaces : ByteArray := prog_1_method_24_code
def yX7_countPlaces : MethodName := ⟨RX7, "countPlaces", "(I)I"⟩
abbrev cX7_leastPlace : ByteArray := prog_1_method_25_code
def yX7_leastPlace : MethodName := ⟨RX7, "leastPlace", "(IZ)I"⟩
abbrev cX7_calmestPlace : ByteArray := prog_1_method_26_code
def yX7_calmestPlace : MethodName := ⟨RX7, "calmestPlace", "(I)I"⟩
def RX8 : String := "HungPicturesModel"
def TX8 : u_T := fun k => match k with
  | 0 => ("HungPicturesModel", "now", "[I", true)
  | 1 => ("HungPicturesModel", "fresh", "[I", true)
  | 2 => ("HungPicturesModel", "past", "[I", true)
  | 3 => ("HungPicturesModel", "undos", "I", false)
  | 4 => ("HungPicturesModel", "images", "[I", true)
  | 5 => ("HungPicturesModel", "isKept", "[Z", true)
  | 6 => ("HungPicturesModel", "seen", "I", false)
  | 7 => ("HungPicturesModel", "seenWhat", "[I", true)
  | 8 => ("HungPicturesModel", "seenNumber", "[I", true)
  | 9 => ("HungPicturesModel", "text", "[I", true)
  | 10 => ("HungPicturesModel", "letters", "I", false)
  | 11 => ("HungPicturesModel", "at", "I", false)
  | 12 => ("HungPicturesModel", "mark", "I", false)
  | 13 => ("HungPicturesModel", "hasWall", "Z", false)
  | 14 => ("HungPicturesModel", "order", "[I", true)
  | 15 => ("HungPicturesModel", "bestOrder", "[I", true)
  | 16 => ("HungPicturesModel", "best", "[I", true)
  | 17 => ("HungPicturesModel", "isFound", "Z", false)
  | 18 => ("HungPicturesModel", "fits", "[Z", true)
  | 19 => ("HungPicturesModel", "holed", "[Z", true)
  | _ => ("HungPicturesModel", "reach", "[I", true)
def tyX8 : Nat → FieldType := fun k => match k with
  | 0 => .array .int
  | 1 => .array .int
  | 2 => .array .int
  | 3 => .int
  | 4 => .array .int
  | 5 => .array .boolean
  | 6 => .int
  | 7 => .array .int
  | 8 => .array .int
  | 9 => .array .int
  | 10 => .int
  | 11 => .int
  | 12 => .int
  | 13 => .boolean
  | 14 => .array .int
  | 15 => .array .int
  | 16 => .array .int
  | 17 => .boolean
  | 18 => .array .boolean
  | 19 => .array .boolean
  | _ => .array .int
abbrev wsX80 : List Cond := u_ws RX8 TX8 21
theorem nmX8 : ∀ a, a < 21 → ∀ b, b < 21 → a ≠ b → (TX8 a).2.1 ≠ (TX8 b).2.1 := by decide +kernel
theorem tyX8_ok : ∀ k, k < 21 → parseFieldDescriptor (TX8 k).2.2.1 = some (tyX8 k) := by decide +kernel
abbrev cX8_init : ByteArray := prog_10_method_1_code
def yX8_init : MethodName := ⟨RX8, "<init>", "()V"⟩
abbrev cX8_within : ByteArray := prog_10_method_3_code
def yX8_within : MethodName := ⟨RX8, "within", "(III)Z"⟩
abbrev cX8_has : ByteArray := prog_10_method_4_code
def yX8_has : MethodName := ⟨RX8, "has", "(II)Z"⟩
abbrev cX8_bares : ByteArray := prog_10_method_5_code
def yX8_bares : MethodName := ⟨RX8, "bares", "([I)V"⟩
abbrev cX8_skips : ByteArray := prog_10_method_6_code
def yX8_skips : MethodName := ⟨RX8, "skips", "()V"⟩
abbrev cX8_isAt : ByteArray := prog_10_method_7_code
def yX8_isAt : MethodName := ⟨RX8, "isAt", "(II)Z"⟩
abbrev cX8_passesEnd : ByteArray := prog_10_method_8_code
def yX8_passesEnd : MethodName := ⟨RX8, "passesEnd", "()Z"⟩
abbrev cX8_puts : ByteArray := prog_10_method_9_code
def yX8_puts : MethodName := ⟨RX8, "puts", "(III)Z"⟩
abbrev cX8_spells : ByteArray := prog_10_method_10_code
def yX8_spells : MethodName := ⟨RX8, "spells", "(IIII)Z"⟩
abbrev cX8_readsWall : ByteArray := prog_10_method_11_code
def yX8_readsWall : MethodName := ⟨RX8, "readsWall", "()Z"⟩
abbrev cX8_readsPicture : ByteArray := prog_10_method_12_code
def yX8_readsPicture : MethodName := ⟨RX8, "readsPicture", "()Z"⟩
abbrev cX8_readsDoor : ByteArray := prog_10_method_13_code
def yX8_readsDoor : MethodName := ⟨RX8, "readsDoor", "()Z"⟩
abbrev cX8_readsHole : ByteArray := prog_10_method_14_code
def yX8_readsHole : MethodName := ⟨RX8, "readsHole", "()Z"⟩
abbrev cX8_readsItem : ByteArray := prog_10_method_15_code
def yX8_readsItem : MethodName := ⟨RX8, "readsItem", "()Z"⟩
abbrev cX8_reads : ByteArray := prog_10_method_16_code
def yX8_reads : MethodName := ⟨RX8, "reads", "()I"⟩
abbrev cX8_type : ByteArray := prog_10_method_17_code
def yX8_type : MethodName := ⟨RX8, "type", "(I)I"⟩
abbrev cX8_clear : ByteArray := prog_10_method_18_code
def yX8_clear : MethodName := ⟨RX8, "clear", "()I"⟩
abbrev cX8_keeps : ByteArray := prog_10_method_19_code
def yX8_keeps : MethodName := ⟨RX8, "keeps", "()V"⟩
abbrev cX8_tells : ByteArray := prog_10_method_20_code
def yX8_tells : MethodName := ⟨RX8, "tells", "()I"⟩
abbrev cX8_isPicture : ByteArray := prog_10_method_21_code
def yX8_isPicture : MethodName := ⟨RX8, "isPicture", "(I)Z"⟩
abbrev cX8_ofPicture : ByteArray := prog_10_method_22_code
def yX8_ofPicture : MethodName := ⟨RX8, "ofPicture", "(II)I"⟩
abbrev cX8_hookX : ByteArray := prog_10_method_23_code
def yX8_hookX : MethodName := ⟨RX8, "hookX", "(II)I"⟩
abbrev cX8_hookY : ByteArray := prog_10_method_24_code
def yX8_hookY : MethodName := ⟨RX8, "hookY", "(I)I"⟩
abbrev cX8_doesFit : ByteArray := prog_10_method_25_code
def yX8_doesFit : MethodName := ⟨RX8, "doesFit", "(II)Z"⟩
abbrev cX8_hangsNow : ByteArray := prog_10_method_26_code
def yX8_hangsNow : MethodName := ⟨RX8, "hangsNow", "(I)Z"⟩
abbrev cX8_isApart : ByteArray := prog_10_method_27_code
def yX8_isApart : MethodName := ⟨RX8, "isApart", "(II)Z"⟩
abbrev cX8_holeAt : ByteArray := prog_10_method_28_code
def yX8_holeAt : MethodName := ⟨RX8, "holeAt", "(II)I"⟩
abbrev cX8_hasHole : ByteArray := prog_10_method_29_code
def yX8_hasHole : MethodName := ⟨RX8, "hasHole", "(II)Z"⟩
abbrev cX8_hangingAt : ByteArray := prog_10_method_30_code
def yX8_hangingAt : MethodName := ⟨RX8, "hangingAt", "(I)I"⟩
abbrev cX8_hangs : ByteArray := prog_10_method_31_code
def yX8_hangs : MethodName := ⟨RX8, "hangs", "(II)I"⟩
abbrev cX8_takes : ByteArray := prog_10_method_32_code
def yX8_takes : MethodName := ⟨RX8, "takes", "(I)I"⟩
abbrev cX8_isHole : ByteArray := prog_10_method_33_code
def yX8_isHole : MethodName := ⟨RX8, "isHole", "(I)Z"⟩
abbrev cX8_fills : ByteArray := prog_10_method_34_code
def yX8_fills : MethodName := ⟨RX8, "fills", "(I)I"⟩
abbrev cX8_lines : ByteArray := prog_10_method_35_code
def yX8_lines : MethodName := ⟨RX8, "lines", "(I)I"⟩
abbrev cX8_undo : ByteArray := prog_10_method_36_code
def yX8_undo : MethodName := ⟨RX8, "undo", "()I"⟩
abbrev cX8_picture : ByteArray := prog_10_method_37_code
def yX8_picture : MethodName := ⟨RX8, "picture", "(II)I"⟩
abbrev cX8_hole : ByteArray := prog_10_method_38_code
def yX8_hole : MethodName := ⟨RX8, "hole", "(II)I"⟩
abbrev cX8_door : ByteArray := prog_10_method_39_code
def yX8_door : MethodName := ⟨RX8, "door", "(II)I"⟩
abbrev cX8_leanOf : ByteArray := prog_10_method_40_code
def yX8_leanOf : MethodName := ⟨RX8, "leanOf", "(II)I"⟩
abbrev cX8_momentNow : ByteArray := prog_10_method_41_code
def yX8_momentNow : MethodName := ⟨RX8, "momentNow", "()I"⟩
abbrev cX8_off : ByteArray := prog_10_method_42_code
def yX8_off : MethodName := ⟨RX8, "off", "(I)I"⟩
abbrev cX8_moment : ByteArray := prog_10_method_43_code
def yX8_moment : MethodName := ⟨RX8, "moment", "(I)I"⟩
abbrev cX8_laysPlaces : ByteArray := prog_10_method_44_code
def yX8_laysPlaces : MethodName := ⟨RX8, "laysPlaces", "()V"⟩
abbrev cX8_isOrder : ByteArray := prog_10_method_45_code
def yX8_isOrder : MethodName := ⟨RX8, "isOrder", "(I)Z"⟩
abbrev cX8_tries : ByteArray := prog_10_method_46_code
def yX8_tries : MethodName := ⟨RX8, "tries", "(II)V"⟩
abbrev cX8_findsBest : ByteArray := prog_10_method_47_code
def yX8_findsBest : MethodName := ⟨RX8, "findsBest", "()V"⟩
abbrev cX8_best : ByteArray := prog_10_method_48_code
def yX8_best : MethodName := ⟨RX8, "best", "(I)I"⟩
abbrev cX8_tellPlaces : ByteArray := prog_10_method_49_code
def yX8_tellPlaces : MethodName := ⟨RX8, "tellPlaces", "(II)I"⟩
abbrev cX8_places : ByteArray := prog_10_method_50_code
def yX8_places : MethodName := ⟨RX8, "places", "(II)I"⟩
abbrev cX8_reachOf : ByteArray := prog_10_method_51_code
def yX8_reachOf : MethodName := ⟨RX8, "reachOf", "(I)I"⟩
abbrev cX8_most : ByteArray := prog_10_method_52_code
def yX8_most : MethodName := ⟨RX8, "most", "()I"⟩
abbrev cX8_sees : ByteArray := prog_10_method_53_code
def yX8_sees : MethodName := ⟨RX8, "sees", "(II)I"⟩
abbrev cX8_forget : ByteArray := prog_10_method_54_code
def yX8_forget : MethodName := ⟨RX8, "forget", "()I"⟩
abbrev cX8_isSeen : ByteArray := prog_10_method_55_code
def yX8_isSeen : MethodName := ⟨RX8, "isSeen", "(I)Z"⟩
abbrev cX8_which : ByteArray := prog_10_method_56_code
def yX8_which : MethodName := ⟨RX8, "which", "(I)I"⟩
abbrev cX8_hanging : ByteArray := prog_10_method_57_code
def yX8_hanging : MethodName := ⟨RX8, "hanging", "()I"⟩
abbrev cX8_keep : ByteArray := prog_10_method_58_code
def yX8_keep : MethodName := ⟨RX8, "keep", "(I)I"⟩
abbrev cX8_back : ByteArray := prog_10_method_59_code
def yX8_back : MethodName := ⟨RX8, "back", "(I)I"⟩
abbrev cX8_count : ByteArray := prog_10_method_60_code
def yX8_count : MethodName := ⟨RX8, "count", "(I)I"⟩
def RJ6 : String := "java/lang/Integer"
def TJ6 : u_T := fun k => match k with
  | _ => ("", "", "", false)
def tyJ6 : Nat → FieldType := fun k => match k with
  | _ => .int
abbrev wsJ60 : List Cond := u_ws RJ6 TJ6 0
theorem nmJ6 : ∀ a, a < 0 → ∀ b, b < 0 → a ≠ b → (TJ6 a).2.1 ≠ (TJ6 b).2.1 := by decide +kernel
theorem tyJ6_ok : ∀ k, k < 0 → parseFieldDescriptor (TJ6 k).2.2.1 = some (tyJ6 k) := by decide +kernel
abbrev cJ6_bitCount_0f7a4 : ByteArray := prog_11_method_49_code
def yJ6_bitCount_0f7a4 : MethodName := ⟨RJ6, "bitCount", "(I)I"⟩
def RJ9 : String := "java/lang/Math"
def TJ9 : u_T := fun k => match k with
  | _ => ("", "", "", false)
def tyJ9 : Nat → FieldType := fun k => match k with
  | _ => .int
abbrev wsJ90 : List Cond := u_ws RJ9 TJ9 0
theorem nmJ9 : ∀ a, a < 0 → ∀ b, b < 0 → a ≠ b → (TJ9 a).2.1 ≠ (TJ9 b).2.1 := by decide +kernel
theorem tyJ9_ok : ∀ k, k < 0 → parseFieldDescriptor (TJ9 k).2.2.1 = some (tyJ9 k) := by decide +kernel
abbrev cJ9_abs_0f7a4 : ByteArray := prog_12_method_59_code
def yJ9_abs_0f7a4 : MethodName := ⟨RJ9, "abs", "(I)I"⟩
abbrev cJ9_max_7cf53 : ByteArray := prog_12_method_65_code
def yJ9_max_7cf53 : MethodName := ⟨RJ9, "max", "(II)I"⟩
abbrev cJ9_min_7cf53 : ByteArray := prog_12_method_69_code
def yJ9_min_7cf53 : MethodName := ⟨RJ9, "min", "(II)I"⟩
def RJ0 : String := "java/lang/String"
def TJ0 : u_T := fun k => match k with
  | _ => ("", "", "", false)
def tyJ0 : Nat → FieldType := fun k => match k with
  | _ => .int
abbrev wsJ00 : List Cond := u_ws RJ0 TJ0 0
theorem nmJ0 : ∀ a, a < 0 → ∀ b, b < 0 → a ≠ b → (TJ0 a).2.1 ≠ (TJ0 b).2.1 := by decide +kernel
theorem tyJ0_ok : ∀ k, k < 0 → parseFieldDescriptor (TJ0 k).2.2.1 = some (tyJ0 k) := by decide +kernel
abbrev cJ0_length_8abf5 : ByteArray := prog_13_method_54_code
def yJ0_length_8abf5 : MethodName := ⟨RJ0, "length", "()I"⟩
abbrev cJ0_charAt_5068e : ByteArray := prog_13_method_56_code
def yJ0_charAt_5068e : MethodName := ⟨RJ0, "charAt", "(I)C"⟩
abbrev cJ0_coder_7d493 : ByteArray := prog_13_method_152_code
def yJ0_coder_7d493 : MethodName := ⟨RJ0, "coder", "()B"⟩
abbrev cJ0_isLatin1_aae02 : ByteArray := prog_13_method_154_code
def yJ0_isLatin1_aae02 : MethodName := ⟨RJ0, "isLatin1", "()Z"⟩
abbrev cJ0_checkIndex_df160 : ByteArray := prog_13_method_155_code
def yJ0_checkIndex_df160 : MethodName := ⟨RJ0, "checkIndex", "(II)V"⟩
def RJ1 : String := "java/lang/StringLatin1"
def TJ1 : u_T := fun k => match k with
  | _ => ("", "", "", false)
def tyJ1 : Nat → FieldType := fun k => match k with
  | _ => .int
abbrev wsJ10 : List Cond := u_ws RJ1 TJ1 0
theorem nmJ1 : ∀ a, a < 0 → ∀ b, b < 0 → a ≠ b → (TJ1 a).2.1 ≠ (TJ1 b).2.1 := by decide +kernel
theorem tyJ1_ok : ∀ k, k < 0 → parseFieldDescriptor (TJ1 k).2.2.1 = some (tyJ1 k) := by decide +kernel
abbrev cJ1_charAt_3b067 : ByteArray := prog_14_method_2_code
def yJ1_charAt_3b067 : MethodName := ⟨RJ1, "charAt", "([BI)C"⟩
def RJ2 : String := "java/lang/StringUTF16"
def TJ2 : u_T := fun k => match k with
  | _ => ("", "", "", false)
def tyJ2 : Nat → FieldType := fun k => match k with
  | _ => .int
abbrev wsJ20 : List Cond := u_ws RJ2 TJ2 0
theorem nmJ2 : ∀ a, a < 0 → ∀ b, b < 0 → a ≠ b → (TJ2 a).2.1 ≠ (TJ2 b).2.1 := by decide +kernel
theorem tyJ2_ok : ∀ k, k < 0 → parseFieldDescriptor (TJ2 k).2.2.1 = some (tyJ2 k) := by decide +kernel
abbrev cJ2_getChar_3b067 : ByteArray := prog_15_method_5_code
def yJ2_getChar_3b067 : MethodName := ⟨RJ2, "getChar", "([BI)C"⟩
abbrev cJ2_length_9d52b : ByteArray := prog_15_method_6_code
def yJ2_length_9d52b : MethodName := ⟨RJ2, "length", "([B)I"⟩
abbrev cJ2_charAt_3b067 : ByteArray := prog_15_method_83_code
def yJ2_charAt_3b067 : MethodName := ⟨RJ2, "charAt", "([BI)C"⟩
abbrev cJ2_checkIndex_2214a : ByteArray := prog_15_method_91_code
def yJ2_checkIndex_2214a : MethodName := ⟨RJ2, "checkIndex", "(I[B)V"⟩
def RJ10 : String := "java/lang/System"
def TJ10 : u_T := fun k => match k with
  | _ => ("", "", "", false)
def tyJ10 : Nat → FieldType := fun k => match k with
  | _ => .int
abbrev wsJ100 : List Cond := u_ws RJ10 TJ10 0
theorem nmJ10 : ∀ a, a < 0 → ∀ b, b < 0 → a ≠ b → (TJ10 a).2.1 ≠ (TJ10 b).2.1 := by decide +kernel
theorem tyJ10_ok : ∀ k, k < 0 → parseFieldDescriptor (TJ10 k).2.2.1 = some (tyJ10 k) := by decide +kernel
def RJ3 : String := "jdk/internal/util/Preconditions"
def TJ3 : u_T := fun k => match k with
  | _ => ("", "", "", false)
def tyJ3 : Nat → FieldType := fun k => match k with
  | _ => .int
abbrev wsJ30 : List Cond := u_ws RJ3 TJ3 0
theorem nmJ3 : ∀ a, a < 0 → ∀ b, b < 0 → a ≠ b → (TJ3 a).2.1 ≠ (TJ3 b).2.1 := by decide +kernel
theorem tyJ3_ok : ∀ k, k < 0 → parseFieldDescriptor (TJ3 k).2.2.1 = some (tyJ3 k) := by decide +kernel
abbrev cJ3_checkIndex_8e157 : ByteArray := prog_17_method_11_code
def yJ3_checkIndex_8e157 : MethodName := ⟨RJ3, "checkIndex", "(IILjava/util/function/BiFunction;)I"⟩
def RL : String := "HungPicturesLaw"
abbrev cL_law : ByteArray := code
def yL_law : MethodName := ⟨RL, "law", "([I)Z"⟩
abbrev vwCl : List vw_C := [(RX0, TX0, 1), (RX1, TX1, 2), (RX2, TX2, 6), (RX3, TX3, 14), (RX4, TX4, 3), (RX5, TX5, 4), (RX6, TX6, 15), (RX7, TX7, 12), (RX8, TX8, 21)]
/-! END names -/
end
section
/-! The good words of the tables (those that a callee may be given), and each field, link and method by its place in them. -/
def am_g : List Cond := lw_tbl.filter goodWord
theorem am_ga {w : Cond} (h : w ∈ am_g) : w ∈ lw_tbl ∧ goodWord w = true := List.mem_filter.mp h
theorem am_gi {w : Cond} (i : Nat) (h : tables_1[i]? = some w) (hg : goodWord w = true) : w ∈ am_g := List.mem_filter.mpr ⟨List.mem_append_right _ (List.mem_of_getElem? h), hg⟩
theorem am_gs {y : MethodName} {n : Nat} (i : Nat) (h : lw_privs[i]? = some (y, n)) : Cond.selects y.cls y y ∈ am_g := List.mem_filter.mpr ⟨List.mem_append_left _ (List.mem_map.mpr ⟨(y, n), List.mem_of_getElem? h, rfl⟩), rfl⟩
theorem am_gl {ws : List Cond} (ps : List Nat) (hp : ws = ps.filterMap (fun i => tables_1[i]?)) (h : ws.all goodWord = true) : ∀ w ∈ ws, w ∈ am_g := by
  intro w hw
  have h1 := List.all_eq_true.mp h w hw
  rw [hp] at hw
  obtain ⟨i, -, hi⟩ := List.mem_filterMap.mp hw
  exact am_gi i hi h1
theorem inl0 : ∀ w ∈ u_ws RX0 TX0 1, w ∈ am_g := am_gl [237] (by decide +kernel) (by decide +kernel)
theorem inl1 : ∀ w ∈ u_ws RX1 TX1 2, w ∈ am_g := am_gl [175, 177] (by decide +kernel) (by decide +kernel)
theorem inl2 : ∀ w ∈ u_ws RX2 TX2 6, w ∈ am_g := am_gl [61, 63, 65, 67, 69, 71] (by decide +kernel) (by decide +kernel)
theorem inl3 : ∀ w ∈ u_ws RX3 TX3 14, w ∈ am_g := am_gl [200, 202, 204, 206, 208, 210, 212, 214, 216, 218, 220, 222, 224, 226] (by decide +kernel) (by decide +kernel)
theorem inl4 : ∀ w ∈ u_ws RX4 TX4 3, w ∈ am_g := am_gl [250, 252, 254] (by decide +kernel) (by decide +kernel)
theorem inl5 : ∀ w ∈ u_ws RX5 TX5 4, w ∈ am_g := am_gl [45, 47, 49, 51] (by decide +kernel) (by decide +kernel)
theorem inl6 : ∀ w ∈ u_ws RX6 TX6 15, w ∈ am_g := am_gl [132, 134, 136, 138, 140, 142, 144, 146, 148, 150, 152, 154, 156, 158, 160] (by decide +kernel) (by decide +kernel)
theorem inl7 : ∀ w ∈ u_ws RX7 TX7 12, w ∈ am_g := am_gl [269, 271, 273, 275, 277, 279, 281, 283, 285, 287, 289, 291] (by decide +kernel) (by decide +kernel)
theorem inl8 : ∀ w ∈ u_ws RX8 TX8 21, w ∈ am_g := am_gl [750, 752, 754, 756, 758, 760, 762, 764, 766, 768, 770, 772, 774, 776, 778, 780, 782, 784, 786, 788, 790] (by decide +kernel) (by decide +kernel)
def am_NF : List (String × Nat × String × String × String × String) := [(RX2, 55, RX5, "kinds", "[I", "HungPictures"), (RX2, 59, RX5, "places", "[I", "HungPictures"), (RX2, 62, RX5, "values", "[I", "HungPictures"), (RX2, 52, RX5, "size", "I", "HungPictures"), (RX3, 60, RX6, "width", "I", "HungPictures"), (RX2, 93, RX6, "width", "I", "HungPictures"), (RX7, 208, RX6, "width", "I", "HungPictures"), (RX2, 96, RX6, "line", "I", "HungPictures"), (RX7, 120, RX6, "line", "I", "HungPictures"), (RX0, 15, RX6, "gap", "I", "HungPictures"), (RX3, 88, RX6, "gap", "I", "HungPictures"), (RX2, 99, RX6, "gap", "I", "HungPictures"), (RX7, 211, RX6, "gap", "I", "HungPictures"), (RX0, 21, RX6, "pictures", "I", "HungPictures"), (RX4, 22, RX6, "pictures", "I", "HungPictures"), (RX3, 49, RX6, "pictures", "I", "HungPictures"), (RX2, 71, RX6, "pictures", "I", "HungPictures"), (RX7, 214, RX6, "pictures", "I", "HungPictures"), (RX2, 77, RX6, "doors", "I", "HungPictures"), (RX7, 217, RX6, "doors", "I", "HungPictures"), (RX7, 99, RX6, "holes", "I", "HungPictures"), (RX2, 83, RX6, "holes", "I", "HungPictures"), (RX0, 36, RX6, "wide", "[I", "HungPictures"), (RX3, 67, RX6, "wide", "[I", "HungPictures"), (RX4, 40, RX6, "wide", "[I", "HungPictures"), (RX7, 134, RX6, "wide", "[I", "HungPictures"), (RX4, 43, RX6, "tall", "[I", "HungPictures"), (RX7, 137, RX6, "tall", "[I", "HungPictures"), (RX7, 140, RX6, "drop", "[I", "HungPictures"), (RX0, 53, RX6, "weight", "[I", "HungPictures"), (RX4, 46, RX6, "weight", "[I", "HungPictures"), (RX7, 143, RX6, "weight", "[I", "HungPictures"), (RX7, 106, RX6, "at", "[I", "HungPictures"), (RX7, 158, RX6, "from", "[I", "HungPictures"), (RX7, 161, RX6, "to", "[I", "HungPictures"), (RX7, 149, RX6, "holeX", "[I", "HungPictures"), (RX7, 152, RX6, "holeY", "[I", "HungPictures"), (RX7, 130, RX1, "known", "I", "HungPictures"), (RX7, 193, RX4, "size", "I", "HungPictures")]
def am_NM : List (String × Nat × MethodName × String) := [(RX7, 19, yX2_init, "HungPictures"), (RX2, 11, yX5_init, "HungPictures"), (RX7, 26, yX6_init, "HungPictures"), (RX7, 36, yX1_init, "HungPictures"), (RX1, 17, yX6_init, "HungPictures"), (RX7, 43, yX3_init, "HungPictures"), (RX7, 54, yX0_init, "HungPictures"), (RX7, 61, yX4_init, "HungPictures"), (RX7, 74, yX2_readInto, "HungPictures"), (RX2, 18, yX5_cut, "HungPictures"), (RX2, 30, yX6_makeBare, "HungPictures"), (RX2, 102, yX6_addPicture, "HungPictures"), (RX2, 106, yX6_addDoor, "HungPictures"), (RX2, 110, yX6_findHole, "HungPictures"), (RX2, 114, yX6_addHole, "HungPictures"), (RX7, 220, yX1_add, "HungPictures"), (RX1, 25, yX6_copyFrom, "HungPictures"), (RX7, 81, yX6_copyFrom, "HungPictures"), (RX7, 85, yX6_hasPicture, "HungPictures"), (RX7, 89, yX6_isUp, "HungPictures"), (RX7, 92, yX6_isFreeFor, "HungPictures"), (RX7, 96, yX6_hasHoleFor, "HungPictures"), (RX7, 102, yX6_putUp, "HungPictures"), (RX7, 109, yX6_hasHole, "HungPictures"), (RX7, 112, yX6_findPictureOn, "HungPictures"), (RX7, 116, yX6_removeHole, "HungPictures"), (RX7, 123, yX6_takeAllDown, "HungPictures"), (RX7, 126, yX1_giveLatestTo, "HungPictures"), (RX7, 146, yX6_hookY, "HungPictures"), (RX7, 155, yX6_hasDoor, "HungPictures"), (RX7, 164, yX6_momentNow, "HungPictures"), (RX7, 173, yX3_search, "HungPictures"), (RX3, 77, yX6_hasPicture, "HungPictures"), (RX3, 81, yX6_fits, "HungPictures"), (RX3, 85, yX6_hasHoleFor, "HungPictures"), (RX3, 70, yX6_momentAt, "HungPictures"), (RX7, 176, yX3_answer, "HungPictures"), (RX7, 222, yX6_momentAt, "HungPictures"), (RX7, 189, yX0_largestSet, "HungPictures"), (RX0, 32, yX6_firstFit, "HungPictures"), (RX7, 196, yX4_add, "HungPictures"), (RX7, 199, yX4_countMatches, "HungPictures"), (RX4, 35, yX6_hasPicture, "HungPictures"), (RX4, 49, yX6_hookY, "HungPictures"), (RX7, 202, yX4_leastMatch, "HungPictures"), (RX7, 205, yX6_countUp, "HungPictures")]
def am_NW : List Cond := am_NF.map (fun q => Cond.fieldLinkNest q.1 q.2.1 q.2.2.1 q.2.2.2.1 q.2.2.2.2.1 q.2.2.2.2.2) ++ am_NM.map (fun q => Cond.methodLinkNest q.1 q.2.1 q.2.2.1 q.2.2.2)
theorem am_NW_on : ∀ w ∈ am_NW, w.onTables = true := by
  intro w h
  rcases List.mem_append.mp h with h | h
  · obtain ⟨q, -, rfl⟩ := List.mem_map.mp h
    rfl
  · obtain ⟨q, -, rfl⟩ := List.mem_map.mp h
    rfl
theorem am_NW_warm {s U : State} : ∀ w ∈ am_NW, s.WarmedH U.vm → va_Nw w s → va_Nw w U := by
  intro w h hW hz
  rcases List.mem_append.mp h with h | h
  · obtain ⟨q, -, rfl⟩ := List.mem_map.mp h
    exact va_Nw.warmF hW hz
  · obtain ⟨q, -, rfl⟩ := List.mem_map.mp h
    exact va_Nw.warmM hW hz
theorem am_nf {a : String} {i : Nat} {r n e t : String} (j : Nat) (h : am_NF[j]? = some (a, i, r, n, e, t)) : Cond.fieldLinkNest a i r n e t ∈ am_NW := List.mem_append_left _ (List.mem_map.mpr ⟨_, List.mem_of_getElem? h, rfl⟩)
theorem am_nm1 {a : String} {i : Nat} {y : MethodName} {t : String} (j : Nat) (h : am_NM[j]? = some (a, i, y, t)) : Cond.methodLinkNest a i y t ∈ am_NW := List.mem_append_right _ (List.mem_map.mpr ⟨_, List.mem_of_getElem? h, rfl⟩)
theorem am_tl {ws : List Cond} (ps : List Nat) (hp : ws = ps.filterMap (fun i => tables_1[i]?)) : ∀ w ∈ ws, w ∈ lw_tbl := by
  intro w hw
  rw [hp] at hw
  obtain ⟨i, -, hi⟩ := List.mem_filterMap.mp hw
  exact List.mem_append_right _ (List.mem_of_getElem? hi)
theorem am_NW_in : ∀ w ∈ am_NW, w ∈ lw_tbl := fun w h => (List.mem_append.mp h).elim (am_tl [38, 40, 42, 44, 85, 86, 87, 89, 90, 91, 93, 94, 95, 96, 98, 99, 100, 101, 103, 104, 106, 107, 109, 110, 111, 112, 114, 115, 117, 119, 120, 121, 123, 125, 127, 129, 131, 174, 249] (by decide +kernel) w) (am_tl [27, 33, 76, 165, 171, 182, 232, 242, 307, 311, 400, 421, 429, 437, 441, 453, 461, 468, 474, 478, 483, 495, 508, 522, 526, 531, 539, 547, 556, 565, 573, 588, 596, 597, 598, 599, 616, 640, 645, 653, 674, 686, 697, 699, 700, 708] (by decide +kernel) w)
def am_C (c : Nat) : String := match c with
  | 0 => RX0
  | 1 => RX1
  | 2 => RX2
  | 3 => RX3
  | 4 => RX4
  | 5 => RX5
  | 6 => RX6
  | 7 => RX7
  | _ => RX8
def am_T (c : Nat) : u_T := match c with
  | 0 => TX0
  | 1 => TX1
  | 2 => TX2
  | 3 => TX3
  | 4 => TX4
  | 5 => TX5
  | 6 => TX6
  | 7 => TX7
  | _ => TX8
def am_ty (c : Nat) : Nat → FieldType := match c with
  | 0 => tyX0
  | 1 => tyX1
  | 2 => tyX2
  | 3 => tyX3
  | 4 => tyX4
  | 5 => tyX5
  | 6 => tyX6
  | 7 => tyX7
  | _ => tyX8
def am_N (c : Nat) : Nat := match c with
  | 0 => 1
  | 1 => 2
  | 2 => 6
  | 3 => 14
  | 4 => 3
  | 5 => 4
  | 6 => 15
  | 7 => 12
  | _ => 21
def am_rf (c k : Nat) : Bool := match am_ty c k with
  | .object _ => true
  | .array _ => true
  | _ => false
abbrev am_M : Type := MethodName × ByteArray × Nat × Option FieldType
/-- the field k of class c, by an entry of own's pool; whether it holds a reference -/
def am_fl (own : String) (idx c k : Nat) : Prop := (Cond.fieldLink own idx (am_T c k).1 (am_T c k).2.1 (am_T c k).2.2.1 ∈ am_g) ∨ ∃ host, Cond.fieldLinkNest own idx (am_T c k).1 (am_T c k).2.1 (am_T c k).2.2.1 host ∈ am_NW
def am_F (own : String) (idx c k : Nat) (b : Bool) : Prop := c < 9 ∧ k < am_N c ∧ am_rf c k = b ∧ am_fl own idx c k
def am_lk (own : String) (idx : Nat) (y : MethodName) : Prop := (Cond.methodLink own idx y ∈ am_g) ∨ ∃ host, Cond.methodLinkNest own idx y host ∈ am_NW
/-- what is known of every method: its code's word, its class, its parameters -/
def am_m (μ : am_M) (n : Nat) : Prop := plainName μ.1.cls = true ∧ Cond.code μ.1 μ.2.1 μ.2.2.1 μ.2.2.2 ∈ am_g ∧ Cond.initialized μ.1.cls ∈ am_g ∧ (μ.1.cls ≠ "java/lang/invoke/MethodHandle" ∧ μ.1.cls ≠ "java/lang/invoke/VarHandle" ∧ (parseMethodDescriptor μ.1.desc).map (fun d => d.parameters.length) = some n) ∧ μ.2.2.1 ≤ 40
def am_mV (μ : am_M) (n c : Nat) : Prop := am_m μ n ∧ c < 9 ∧ μ.1.cls = am_C c ∧ Cond.instanceMethod μ.1 ∈ am_g ∧ Cond.selects μ.1.cls μ.1 μ.1 ∈ am_g
def am_mS (μ : am_M) (n : Nat) : Prop := am_m μ n ∧ Cond.static μ.1 ∈ am_g
def am_mI (μ : am_M) (n : Nat) : Prop := am_m μ n ∧ μ.1.name = "<init>" ∧ μ.2.2.2 = none ∧ Cond.instanceMethod μ.1 ∈ am_g
def am_nw (own : String) (idx c : Nat) : Prop := c < 9 ∧ Cond.classLink own idx (am_C c) ∈ am_g ∧ Cond.instantiable (am_C c) (am_N c) ∈ am_g ∧ Cond.initialized (am_C c) ∈ am_g
theorem fl5_11 : am_F RX5 11 5 0 true := ⟨by decide, by decide, by decide +kernel, Or.inl (am_gi 37 (by decide +kernel) rfl)⟩
theorem fl5_15 : am_F RX5 15 5 1 true := ⟨by decide, by decide, by decide +kernel, Or.inl (am_gi 39 (by decide +kernel) rfl)⟩
theorem fl5_18 : am_F RX5 18 5 2 true := ⟨by decide, by decide, by decide +kernel, Or.inl (am_gi 41 (by decide +kernel) rfl)⟩
theorem fl5_21 : am_F RX5 21 5 3 false := ⟨by decide, by decide, by decide +kernel, Or.inl (am_gi 43 (by decide +kernel) rfl)⟩
theorem fl2_12 : am_F RX2 12 2 0 true := ⟨by decide, by decide, by decide +kernel, Or.inl (am_gi 55 (by decide +kernel) rfl)⟩
theorem fl2_22 : am_F RX2 22 2 1 false := ⟨by decide, by decide, by decide +kernel, Or.inl (am_gi 56 (by decide +kernel) rfl)⟩
theorem fl2_38 : am_F RX2 38 2 2 false := ⟨by decide, by decide, by decide +kernel, Or.inl (am_gi 57 (by decide +kernel) rfl)⟩
theorem fl2_49 : am_F RX2 49 2 3 false := ⟨by decide, by decide, by decide +kernel, Or.inl (am_gi 58 (by decide +kernel) rfl)⟩
theorem fl2_65 : am_F RX2 65 2 4 false := ⟨by decide, by decide, by decide +kernel, Or.inl (am_gi 59 (by decide +kernel) rfl)⟩
theorem fl2_26 : am_F RX2 26 2 5 false := ⟨by decide, by decide, by decide +kernel, Or.inl (am_gi 60 (by decide +kernel) rfl)⟩
theorem fl6_42 : am_F RX6 42 6 0 false := ⟨by decide, by decide, by decide +kernel, Or.inl (am_gi 84 (by decide +kernel) rfl)⟩
theorem fl6_46 : am_F RX6 46 6 1 false := ⟨by decide, by decide, by decide +kernel, Or.inl (am_gi 88 (by decide +kernel) rfl)⟩
theorem fl6_49 : am_F RX6 49 6 2 false := ⟨by decide, by decide, by decide +kernel, Or.inl (am_gi 92 (by decide +kernel) rfl)⟩
theorem fl6_52 : am_F RX6 52 6 3 false := ⟨by decide, by decide, by decide +kernel, Or.inl (am_gi 97 (by decide +kernel) rfl)⟩
theorem fl6_55 : am_F RX6 55 6 4 false := ⟨by decide, by decide, by decide +kernel, Or.inl (am_gi 102 (by decide +kernel) rfl)⟩
theorem fl6_58 : am_F RX6 58 6 5 false := ⟨by decide, by decide, by decide +kernel, Or.inl (am_gi 105 (by decide +kernel) rfl)⟩
theorem fl6_9 : am_F RX6 9 6 6 true := ⟨by decide, by decide, by decide +kernel, Or.inl (am_gi 108 (by decide +kernel) rfl)⟩
theorem fl6_15 : am_F RX6 15 6 7 true := ⟨by decide, by decide, by decide +kernel, Or.inl (am_gi 113 (by decide +kernel) rfl)⟩
theorem fl6_18 : am_F RX6 18 6 8 true := ⟨by decide, by decide, by decide +kernel, Or.inl (am_gi 116 (by decide +kernel) rfl)⟩
theorem fl6_21 : am_F RX6 21 6 9 true := ⟨by decide, by decide, by decide +kernel, Or.inl (am_gi 118 (by decide +kernel) rfl)⟩
theorem fl6_24 : am_F RX6 24 6 10 true := ⟨by decide, by decide, by decide +kernel, Or.inl (am_gi 122 (by decide +kernel) rfl)⟩
theorem fl6_27 : am_F RX6 27 6 11 true := ⟨by decide, by decide, by decide +kernel, Or.inl (am_gi 124 (by decide +kernel) rfl)⟩
theorem fl6_30 : am_F RX6 30 6 12 true := ⟨by decide, by decide, by decide +kernel, Or.inl (am_gi 126 (by decide +kernel) rfl)⟩
theorem fl6_33 : am_F RX6 33 6 13 true := ⟨by decide, by decide, by decide +kernel, Or.inl (am_gi 128 (by decide +kernel) rfl)⟩
theorem fl6_36 : am_F RX6 36 6 14 true := ⟨by decide, by decide, by decide +kernel, Or.inl (am_gi 130 (by decide +kernel) rfl)⟩
theorem fl1_11 : am_F RX1 11 1 0 true := ⟨by decide, by decide, by decide +kernel, Or.inl (am_gi 172 (by decide +kernel) rfl)⟩
theorem fl1_18 : am_F RX1 18 1 1 false := ⟨by decide, by decide, by decide +kernel, Or.inl (am_gi 173 (by decide +kernel) rfl)⟩
theorem fl3_9 : am_F RX3 9 3 0 true := ⟨by decide, by decide, by decide +kernel, Or.inl (am_gi 186 (by decide +kernel) rfl)⟩
theorem fl3_15 : am_F RX3 15 3 1 true := ⟨by decide, by decide, by decide +kernel, Or.inl (am_gi 187 (by decide +kernel) rfl)⟩
theorem fl3_18 : am_F RX3 18 3 2 true := ⟨by decide, by decide, by decide +kernel, Or.inl (am_gi 188 (by decide +kernel) rfl)⟩
theorem fl3_22 : am_F RX3 22 3 3 true := ⟨by decide, by decide, by decide +kernel, Or.inl (am_gi 189 (by decide +kernel) rfl)⟩
theorem fl3_89 : am_F RX3 89 3 4 false := ⟨by decide, by decide, by decide +kernel, Or.inl (am_gi 190 (by decide +kernel) rfl)⟩
theorem fl3_92 : am_F RX3 92 3 5 false := ⟨by decide, by decide, by decide +kernel, Or.inl (am_gi 191 (by decide +kernel) rfl)⟩
theorem fl3_46 : am_F RX3 46 3 6 false := ⟨by decide, by decide, by decide +kernel, Or.inl (am_gi 192 (by decide +kernel) rfl)⟩
theorem fl3_54 : am_F RX3 54 3 7 false := ⟨by decide, by decide, by decide +kernel, Or.inl (am_gi 193 (by decide +kernel) rfl)⟩
theorem fl3_57 : am_F RX3 57 3 8 false := ⟨by decide, by decide, by decide +kernel, Or.inl (am_gi 194 (by decide +kernel) rfl)⟩
theorem fl3_25 : am_F RX3 25 3 9 false := ⟨by decide, by decide, by decide +kernel, Or.inl (am_gi 195 (by decide +kernel) rfl)⟩
theorem fl3_29 : am_F RX3 29 3 10 false := ⟨by decide, by decide, by decide +kernel, Or.inl (am_gi 196 (by decide +kernel) rfl)⟩
theorem fl3_33 : am_F RX3 33 3 11 false := ⟨by decide, by decide, by decide +kernel, Or.inl (am_gi 197 (by decide +kernel) rfl)⟩
theorem fl3_36 : am_F RX3 36 3 12 false := ⟨by decide, by decide, by decide +kernel, Or.inl (am_gi 198 (by decide +kernel) rfl)⟩
theorem fl3_39 : am_F RX3 39 3 13 false := ⟨by decide, by decide, by decide +kernel, Or.inl (am_gi 199 (by decide +kernel) rfl)⟩
theorem fl0_11 : am_F RX0 11 0 0 true := ⟨by decide, by decide, by decide +kernel, Or.inl (am_gi 236 (by decide +kernel) rfl)⟩
theorem fl4_9 : am_F RX4 9 4 0 true := ⟨by decide, by decide, by decide +kernel, Or.inl (am_gi 246 (by decide +kernel) rfl)⟩
theorem fl4_15 : am_F RX4 15 4 1 true := ⟨by decide, by decide, by decide +kernel, Or.inl (am_gi 247 (by decide +kernel) rfl)⟩
theorem fl4_18 : am_F RX4 18 4 2 false := ⟨by decide, by decide, by decide +kernel, Or.inl (am_gi 248 (by decide +kernel) rfl)⟩
theorem fl7_9 : am_F RX7 9 7 0 true := ⟨by decide, by decide, by decide +kernel, Or.inl (am_gi 257 (by decide +kernel) rfl)⟩
theorem fl7_13 : am_F RX7 13 7 1 false := ⟨by decide, by decide, by decide +kernel, Or.inl (am_gi 258 (by decide +kernel) rfl)⟩
theorem fl7_20 : am_F RX7 20 7 2 true := ⟨by decide, by decide, by decide +kernel, Or.inl (am_gi 259 (by decide +kernel) rfl)⟩
theorem fl7_27 : am_F RX7 27 7 3 true := ⟨by decide, by decide, by decide +kernel, Or.inl (am_gi 260 (by decide +kernel) rfl)⟩
theorem fl7_31 : am_F RX7 31 7 4 true := ⟨by decide, by decide, by decide +kernel, Or.inl (am_gi 261 (by decide +kernel) rfl)⟩
theorem fl7_37 : am_F RX7 37 7 5 true := ⟨by decide, by decide, by decide +kernel, Or.inl (am_gi 262 (by decide +kernel) rfl)⟩
theorem fl7_44 : am_F RX7 44 7 6 true := ⟨by decide, by decide, by decide +kernel, Or.inl (am_gi 263 (by decide +kernel) rfl)⟩
theorem fl7_48 : am_F RX7 48 7 7 false := ⟨by decide, by decide, by decide +kernel, Or.inl (am_gi 264 (by decide +kernel) rfl)⟩
theorem fl7_55 : am_F RX7 55 7 8 true := ⟨by decide, by decide, by decide +kernel, Or.inl (am_gi 265 (by decide +kernel) rfl)⟩
theorem fl7_62 : am_F RX7 62 7 9 true := ⟨by decide, by decide, by decide +kernel, Or.inl (am_gi 266 (by decide +kernel) rfl)⟩
theorem fl7_66 : am_F RX7 66 7 10 true := ⟨by decide, by decide, by decide +kernel, Or.inl (am_gi 267 (by decide +kernel) rfl)⟩
theorem fl7_70 : am_F RX7 70 7 11 true := ⟨by decide, by decide, by decide +kernel, Or.inl (am_gi 268 (by decide +kernel) rfl)⟩
theorem fl8_7 : am_F RX8 7 8 0 true := ⟨by decide, by decide, by decide +kernel, Or.inl (am_gi 729 (by decide +kernel) rfl)⟩
theorem fl8_13 : am_F RX8 13 8 1 true := ⟨by decide, by decide, by decide +kernel, Or.inl (am_gi 730 (by decide +kernel) rfl)⟩
theorem fl8_16 : am_F RX8 16 8 2 true := ⟨by decide, by decide, by decide +kernel, Or.inl (am_gi 731 (by decide +kernel) rfl)⟩
theorem fl8_108 : am_F RX8 108 8 3 false := ⟨by decide, by decide, by decide +kernel, Or.inl (am_gi 732 (by decide +kernel) rfl)⟩
theorem fl8_19 : am_F RX8 19 8 4 true := ⟨by decide, by decide, by decide +kernel, Or.inl (am_gi 733 (by decide +kernel) rfl)⟩
theorem fl8_22 : am_F RX8 22 8 5 true := ⟨by decide, by decide, by decide +kernel, Or.inl (am_gi 734 (by decide +kernel) rfl)⟩
theorem fl8_189 : am_F RX8 189 8 6 false := ⟨by decide, by decide, by decide +kernel, Or.inl (am_gi 735 (by decide +kernel) rfl)⟩
theorem fl8_26 : am_F RX8 26 8 7 true := ⟨by decide, by decide, by decide +kernel, Or.inl (am_gi 736 (by decide +kernel) rfl)⟩
theorem fl8_29 : am_F RX8 29 8 8 true := ⟨by decide, by decide, by decide +kernel, Or.inl (am_gi 737 (by decide +kernel) rfl)⟩
theorem fl8_32 : am_F RX8 32 8 9 true := ⟨by decide, by decide, by decide +kernel, Or.inl (am_gi 738 (by decide +kernel) rfl)⟩
theorem fl8_61 : am_F RX8 61 8 10 false := ⟨by decide, by decide, by decide +kernel, Or.inl (am_gi 739 (by decide +kernel) rfl)⟩
theorem fl8_57 : am_F RX8 57 8 11 false := ⟨by decide, by decide, by decide +kernel, Or.inl (am_gi 740 (by decide +kernel) rfl)⟩
theorem fl8_64 : am_F RX8 64 8 12 false := ⟨by decide, by decide, by decide +kernel, Or.inl (am_gi 741 (by decide +kernel) rfl)⟩
theorem fl8_78 : am_F RX8 78 8 13 false := ⟨by decide, by decide, by decide +kernel, Or.inl (am_gi 742 (by decide +kernel) rfl)⟩
theorem fl8_35 : am_F RX8 35 8 14 true := ⟨by decide, by decide, by decide +kernel, Or.inl (am_gi 743 (by decide +kernel) rfl)⟩
theorem fl8_38 : am_F RX8 38 8 15 true := ⟨by decide, by decide, by decide +kernel, Or.inl (am_gi 744 (by decide +kernel) rfl)⟩
theorem fl8_41 : am_F RX8 41 8 16 true := ⟨by decide, by decide, by decide +kernel, Or.inl (am_gi 745 (by decide +kernel) rfl)⟩
theorem fl8_164 : am_F RX8 164 8 17 false := ⟨by decide, by decide, by decide +kernel, Or.inl (am_gi 746 (by decide +kernel) rfl)⟩
theorem fl8_44 : am_F RX8 44 8 18 true := ⟨by decide, by decide, by decide +kernel, Or.inl (am_gi 747 (by decide +kernel) rfl)⟩
theorem fl8_47 : am_F RX8 47 8 19 true := ⟨by decide, by decide, by decide +kernel, Or.inl (am_gi 748 (by decide +kernel) rfl)⟩
theorem fl8_50 : am_F RX8 50 8 20 true := ⟨by decide, by decide, by decide +kernel, Or.inl (am_gi 749 (by decide +kernel) rfl)⟩
theorem fl2_55 : am_F RX2 55 5 0 true := ⟨by decide, by decide, by decide +kernel, Or.inr ⟨"HungPictures", am_nf 0 rfl⟩⟩
theorem fl2_59 : am_F RX2 59 5 1 true := ⟨by decide, by decide, by decide +kernel, Or.inr ⟨"HungPictures", am_nf 1 rfl⟩⟩
theorem fl2_62 : am_F RX2 62 5 2 true := ⟨by decide, by decide, by decide +kernel, Or.inr ⟨"HungPictures", am_nf 2 rfl⟩⟩
theorem fl2_52 : am_F RX2 52 5 3 false := ⟨by decide, by decide, by decide +kernel, Or.inr ⟨"HungPictures", am_nf 3 rfl⟩⟩
theorem fl3_60 : am_F RX3 60 6 0 false := ⟨by decide, by decide, by decide +kernel, Or.inr ⟨"HungPictures", am_nf 4 rfl⟩⟩
theorem fl2_93 : am_F RX2 93 6 0 false := ⟨by decide, by decide, by decide +kernel, Or.inr ⟨"HungPictures", am_nf 5 rfl⟩⟩
theorem fl7_208 : am_F RX7 208 6 0 false := ⟨by decide, by decide, by decide +kernel, Or.inr ⟨"HungPictures", am_nf 6 rfl⟩⟩
theorem fl2_96 : am_F RX2 96 6 1 false := ⟨by decide, by decide, by decide +kernel, Or.inr ⟨"HungPictures", am_nf 7 rfl⟩⟩
theorem fl7_120 : am_F RX7 120 6 1 false := ⟨by decide, by decide, by decide +kernel, Or.inr ⟨"HungPictures", am_nf 8 rfl⟩⟩
theorem fl0_15 : am_F RX0 15 6 2 false := ⟨by decide, by decide, by decide +kernel, Or.inr ⟨"HungPictures", am_nf 9 rfl⟩⟩
theorem fl3_88 : am_F RX3 88 6 2 false := ⟨by decide, by decide, by decide +kernel, Or.inr ⟨"HungPictures", am_nf 10 rfl⟩⟩
theorem fl2_99 : am_F RX2 99 6 2 false := ⟨by decide, by decide, by decide +kernel, Or.inr ⟨"HungPictures", am_nf 11 rfl⟩⟩
theorem fl7_211 : am_F RX7 211 6 2 false := ⟨by decide, by decide, by decide +kernel, Or.inr ⟨"HungPictures", am_nf 12 rfl⟩⟩
theorem fl0_21 : am_F RX0 21 6 3 false := ⟨by decide, by decide, by decide +kernel, Or.inr ⟨"HungPictures", am_nf 13 rfl⟩⟩
theorem fl4_22 : am_F RX4 22 6 3 false := ⟨by decide, by decide, by decide +kernel, Or.inr ⟨"HungPictures", am_nf 14 rfl⟩⟩
theorem fl3_49 : am_F RX3 49 6 3 false := ⟨by decide, by decide, by decide +kernel, Or.inr ⟨"HungPictures", am_nf 15 rfl⟩⟩
theorem fl2_71 : am_F RX2 71 6 3 false := ⟨by decide, by decide, by decide +kernel, Or.inr ⟨"HungPictures", am_nf 16 rfl⟩⟩
theorem fl7_214 : am_F RX7 214 6 3 false := ⟨by decide, by decide, by decide +kernel, Or.inr ⟨"HungPictures", am_nf 17 rfl⟩⟩
theorem fl2_77 : am_F RX2 77 6 4 false := ⟨by decide, by decide, by decide +kernel, Or.inr ⟨"HungPictures", am_nf 18 rfl⟩⟩
theorem fl7_217 : am_F RX7 217 6 4 false := ⟨by decide, by decide, by decide +kernel, Or.inr ⟨"HungPictures", am_nf 19 rfl⟩⟩
theorem fl7_99 : am_F RX7 99 6 5 false := ⟨by decide, by decide, by decide +kernel, Or.inr ⟨"HungPictures", am_nf 20 rfl⟩⟩
theorem fl2_83 : am_F RX2 83 6 5 false := ⟨by decide, by decide, by decide +kernel, Or.inr ⟨"HungPictures", am_nf 21 rfl⟩⟩
theorem fl0_36 : am_F RX0 36 6 6 true := ⟨by decide, by decide, by decide +kernel, Or.inr ⟨"HungPictures", am_nf 22 rfl⟩⟩
theorem fl3_67 : am_F RX3 67 6 6 true := ⟨by decide, by decide, by decide +kernel, Or.inr ⟨"HungPictures", am_nf 23 rfl⟩⟩
theorem fl4_40 : am_F RX4 40 6 6 true := ⟨by decide, by decide, by decide +kernel, Or.inr ⟨"HungPictures", am_nf 24 rfl⟩⟩
theorem fl7_134 : am_F RX7 134 6 6 true := ⟨by decide, by decide, by decide +kernel, Or.inr ⟨"HungPictures", am_nf 25 rfl⟩⟩
theorem fl4_43 : am_F RX4 43 6 7 true := ⟨by decide, by decide, by decide +kernel, Or.inr ⟨"HungPictures", am_nf 26 rfl⟩⟩
theorem fl7_137 : am_F RX7 137 6 7 true := ⟨by decide, by decide, by decide +kernel, Or.inr ⟨"HungPictures", am_nf 27 rfl⟩⟩
theorem fl7_140 : am_F RX7 140 6 8 true := ⟨by decide, by decide, by decide +kernel, Or.inr ⟨"HungPictures", am_nf 28 rfl⟩⟩
theorem fl0_53 : am_F RX0 53 6 9 true := ⟨by decide, by decide, by decide +kernel, Or.inr ⟨"HungPictures", am_nf 29 rfl⟩⟩
theorem fl4_46 : am_F RX4 46 6 9 true := ⟨by decide, by decide, by decide +kernel, Or.inr ⟨"HungPictures", am_nf 30 rfl⟩⟩
theorem fl7_143 : am_F RX7 143 6 9 true := ⟨by decide, by decide, by decide +kernel, Or.inr ⟨"HungPictures", am_nf 31 rfl⟩⟩
theorem fl7_106 : am_F RX7 106 6 10 true := ⟨by decide, by decide, by decide +kernel, Or.inr ⟨"HungPictures", am_nf 32 rfl⟩⟩
theorem fl7_158 : am_F RX7 158 6 11 true := ⟨by decide, by decide, by decide +kernel, Or.inr ⟨"HungPictures", am_nf 33 rfl⟩⟩
theorem fl7_161 : am_F RX7 161 6 12 true := ⟨by decide, by decide, by decide +kernel, Or.inr ⟨"HungPictures", am_nf 34 rfl⟩⟩
theorem fl7_149 : am_F RX7 149 6 13 true := ⟨by decide, by decide, by decide +kernel, Or.inr ⟨"HungPictures", am_nf 35 rfl⟩⟩
theorem fl7_152 : am_F RX7 152 6 14 true := ⟨by decide, by decide, by decide +kernel, Or.inr ⟨"HungPictures", am_nf 36 rfl⟩⟩
theorem fl7_130 : am_F RX7 130 1 1 false := ⟨by decide, by decide, by decide +kernel, Or.inr ⟨"HungPictures", am_nf 37 rfl⟩⟩
theorem fl7_193 : am_F RX7 193 4 2 false := ⟨by decide, by decide, by decide +kernel, Or.inr ⟨"HungPictures", am_nf 38 rfl⟩⟩
def m7_init : am_M := (yX7_init, cX7_init, 2, none)
theorem m7_init_I : am_mI m7_init 0 := ⟨⟨by decide, am_gi 21 (by decide +kernel) rfl, am_gi 1 (by decide +kernel) rfl, by decide +kernel, by decide⟩, rfl, rfl, am_gi 20 (by decide +kernel) rfl⟩
def m2_init : am_M := (yX2_init, cX2_init, 1, none)
theorem m2_init_I : am_mI m2_init 0 := ⟨⟨by decide, am_gi 29 (by decide +kernel) rfl, am_gi 2 (by decide +kernel) rfl, by decide +kernel, by decide⟩, rfl, rfl, am_gi 28 (by decide +kernel) rfl⟩
def m5_init : am_M := (yX5_init, cX5_init, 1, none)
theorem m5_init_I : am_mI m5_init 0 := ⟨⟨by decide, am_gi 35 (by decide +kernel) rfl, am_gi 3 (by decide +kernel) rfl, by decide +kernel, by decide⟩, rfl, rfl, am_gi 34 (by decide +kernel) rfl⟩
def m6_init : am_M := (yX6_init, cX6_init, 1, none)
theorem m6_init_I : am_mI m6_init 0 := ⟨⟨by decide, am_gi 78 (by decide +kernel) rfl, am_gi 4 (by decide +kernel) rfl, by decide +kernel, by decide⟩, rfl, rfl, am_gi 77 (by decide +kernel) rfl⟩
def m6_makeBare : am_M := (yX6_makeBare, cX6_makeBare, 1, none)
theorem m6_makeBare_V : am_mV m6_makeBare 0 6 := ⟨⟨by decide, am_gi 83 (by decide +kernel) rfl, am_gi 4 (by decide +kernel) rfl, by decide +kernel, by decide⟩, by decide, rfl, am_gi 82 (by decide +kernel) rfl, am_gs (n := 15) 0 (by decide +kernel)⟩
def m1_init : am_M := (yX1_init, cX1_init, 2, none)
theorem m1_init_I : am_mI m1_init 0 := ⟨⟨by decide, am_gi 167 (by decide +kernel) rfl, am_gi 5 (by decide +kernel) rfl, by decide +kernel, by decide⟩, rfl, rfl, am_gi 166 (by decide +kernel) rfl⟩
def m3_init : am_M := (yX3_init, cX3_init, 1, none)
theorem m3_init_I : am_mI m3_init 0 := ⟨⟨by decide, am_gi 184 (by decide +kernel) rfl, am_gi 6 (by decide +kernel) rfl, by decide +kernel, by decide⟩, rfl, rfl, am_gi 183 (by decide +kernel) rfl⟩
def m0_init : am_M := (yX0_init, cX0_init, 1, none)
theorem m0_init_I : am_mI m0_init 0 := ⟨⟨by decide, am_gi 234 (by decide +kernel) rfl, am_gi 7 (by decide +kernel) rfl, by decide +kernel, by decide⟩, rfl, rfl, am_gi 233 (by decide +kernel) rfl⟩
def m4_init : am_M := (yX4_init, cX4_init, 1, none)
theorem m4_init_I : am_mI m4_init 0 := ⟨⟨by decide, am_gi 244 (by decide +kernel) rfl, am_gi 8 (by decide +kernel) rfl, by decide +kernel, by decide⟩, rfl, rfl, am_gi 243 (by decide +kernel) rfl⟩
def m7_type : am_M := (yX7_type, cX7_type, 2, (some .int))
theorem m7_type_V : am_mV m7_type 1 7 := ⟨⟨by decide, am_gi 298 (by decide +kernel) rfl, am_gi 1 (by decide +kernel) rfl, by decide +kernel, by decide⟩, by decide, rfl, am_gi 296 (by decide +kernel) rfl, am_gi 297 (by decide +kernel) rfl⟩
def m7_clear : am_M := (yX7_clear, cX7_clear, 2, (some .int))
theorem m7_clear_V : am_mV m7_clear 0 7 := ⟨⟨by decide, am_gi 302 (by decide +kernel) rfl, am_gi 1 (by decide +kernel) rfl, by decide +kernel, by decide⟩, by decide, rfl, am_gi 300 (by decide +kernel) rfl, am_gi 301 (by decide +kernel) rfl⟩
def m7_tells : am_M := (yX7_tells, cX7_tells, 2, (some .int))
theorem m7_tells_V : am_mV m7_tells 0 7 := ⟨⟨by decide, am_gi 306 (by decide +kernel) rfl, am_gi 1 (by decide +kernel) rfl, by decide +kernel, by decide⟩, by decide, rfl, am_gi 304 (by decide +kernel) rfl, am_gi 305 (by decide +kernel) rfl⟩
def m2_readInto : am_M := (yX2_readInto, cX2_readInto, 5, (some .int))
theorem m2_readInto_V : am_mV m2_readInto 3 2 := ⟨⟨by decide, am_gi 310 (by decide +kernel) rfl, am_gi 2 (by decide +kernel) rfl, by decide +kernel, by decide⟩, by decide, rfl, am_gi 309 (by decide +kernel) rfl, am_gs (n := 6) 1 (by decide +kernel)⟩
def m5_cut : am_M := (yX5_cut, cX5_cut, 5, none)
theorem m5_cut_V : am_mV m5_cut 2 5 := ⟨⟨by decide, am_gi 314 (by decide +kernel) rfl, am_gi 3 (by decide +kernel) rfl, by decide +kernel, by decide⟩, by decide, rfl, am_gi 313 (by decide +kernel) rfl, am_gs (n := 4) 2 (by decide +kernel)⟩
def m5_endOfToken : am_M := (yX5_endOfToken, cX5_endOfToken, 5, (some .int))
theorem m5_endOfToken_S : am_mS m5_endOfToken 3 := ⟨⟨by decide, am_gi 317 (by decide +kernel) rfl, am_gi 3 (by decide +kernel) rfl, by decide +kernel, by decide⟩, am_gi 316 (by decide +kernel) rfl⟩
def m5_sortAt : am_M := (yX5_sortAt, cX5_sortAt, 3, (some .int))
theorem m5_sortAt_S : am_mS m5_sortAt 2 := ⟨⟨by decide, am_gi 320 (by decide +kernel) rfl, am_gi 3 (by decide +kernel) rfl, by decide +kernel, by decide⟩, am_gi 319 (by decide +kernel) rfl⟩
def m5_kindOf : am_M := (yX5_kindOf, cX5_kindOf, 3, (some .int))
theorem m5_kindOf_S : am_mS m5_kindOf 3 := ⟨⟨by decide, am_gi 323 (by decide +kernel) rfl, am_gi 3 (by decide +kernel) rfl, by decide +kernel, by decide⟩, am_gi 322 (by decide +kernel) rfl⟩
def m5_kindOfFigures : am_M := (yX5_kindOfFigures, cX5_kindOfFigures, 4, (some .int))
theorem m5_kindOfFigures_S : am_mS m5_kindOfFigures 3 := ⟨⟨by decide, am_gi 326 (by decide +kernel) rfl, am_gi 3 (by decide +kernel) rfl, by decide +kernel, by decide⟩, am_gi 325 (by decide +kernel) rfl⟩
def m5_spells : am_M := (yX5_spells, cX5_spells, 5, (some .boolean))
theorem m5_spells_S : am_mS m5_spells 4 := ⟨⟨by decide, am_gi 330 (by decide +kernel) rfl, am_gi 3 (by decide +kernel) rfl, by decide +kernel, by decide⟩, am_gi 329 (by decide +kernel) rfl⟩
def j0_length_8abf5 : am_M := (yJ0_length_8abf5, cJ0_length_8abf5, 1, (some .int))
def j0_coder_7d493 : am_M := (yJ0_coder_7d493, cJ0_coder_7d493, 1, (some .byte))
def j0_charAt_5068e : am_M := (yJ0_charAt_5068e, cJ0_charAt_5068e, 2, (some .char))
def j0_isLatin1_aae02 : am_M := (yJ0_isLatin1_aae02, cJ0_isLatin1_aae02, 1, (some .boolean))
def j1_charAt_3b067 : am_M := (yJ1_charAt_3b067, cJ1_charAt_3b067, 2, (some .char))
theorem j1_charAt_3b067_S : am_mS j1_charAt_3b067 2 := ⟨⟨by decide, am_gi 351 (by decide +kernel) rfl, am_gi 11 (by decide +kernel) rfl, by decide +kernel, by decide⟩, am_gi 350 (by decide +kernel) rfl⟩
def j0_checkIndex_df160 : am_M := (yJ0_checkIndex_df160, cJ0_checkIndex_df160, 2, none)
theorem j0_checkIndex_df160_S : am_mS j0_checkIndex_df160 2 := ⟨⟨by decide, am_gi 354 (by decide +kernel) rfl, am_gi 10 (by decide +kernel) rfl, by decide +kernel, by decide⟩, am_gi 353 (by decide +kernel) rfl⟩
def j3_checkIndex_8e157 : am_M := (yJ3_checkIndex_8e157, cJ3_checkIndex_8e157, 3, (some .int))
theorem j3_checkIndex_8e157_S : am_mS j3_checkIndex_8e157 3 := ⟨⟨by decide, am_gi 359 (by decide +kernel) rfl, am_gi 12 (by decide +kernel) rfl, by decide +kernel, by decide⟩, am_gi 358 (by decide +kernel) rfl⟩
def j2_charAt_3b067 : am_M := (yJ2_charAt_3b067, cJ2_charAt_3b067, 2, (some .char))
theorem j2_charAt_3b067_S : am_mS j2_charAt_3b067 2 := ⟨⟨by decide, am_gi 362 (by decide +kernel) rfl, am_gi 13 (by decide +kernel) rfl, by decide +kernel, by decide⟩, am_gi 361 (by decide +kernel) rfl⟩
def j2_checkIndex_2214a : am_M := (yJ2_checkIndex_2214a, cJ2_checkIndex_2214a, 2, none)
theorem j2_checkIndex_2214a_S : am_mS j2_checkIndex_2214a 2 := ⟨⟨by decide, am_gi 365 (by decide +kernel) rfl, am_gi 13 (by decide +kernel) rfl, by decide +kernel, by decide⟩, am_gi 364 (by decide +kernel) rfl⟩
def j2_length_9d52b : am_M := (yJ2_length_9d52b, cJ2_length_9d52b, 1, (some .int))
theorem j2_length_9d52b_S : am_mS j2_length_9d52b 1 := ⟨⟨by decide, am_gi 368 (by decide +kernel) rfl, am_gi 13 (by decide +kernel) rfl, by decide +kernel, by decide⟩, am_gi 367 (by decide +kernel) rfl⟩
def j2_getChar_3b067 : am_M := (yJ2_getChar_3b067, cJ2_getChar_3b067, 2, (some .char))
theorem j2_getChar_3b067_S : am_mS j2_getChar_3b067 2 := ⟨⟨by decide, am_gi 372 (by decide +kernel) rfl, am_gi 13 (by decide +kernel) rfl, by decide +kernel, by decide⟩, am_gi 371 (by decide +kernel) rfl⟩
def m5_valueOf : am_M := (yX5_valueOf, cX5_valueOf, 5, (some .int))
theorem m5_valueOf_S : am_mS m5_valueOf 3 := ⟨⟨by decide, am_gi 381 (by decide +kernel) rfl, am_gi 3 (by decide +kernel) rfl, by decide +kernel, by decide⟩, am_gi 380 (by decide +kernel) rfl⟩
def m5_kindOfWord : am_M := (yX5_kindOfWord, cX5_kindOfWord, 3, (some .int))
theorem m5_kindOfWord_S : am_mS m5_kindOfWord 3 := ⟨⟨by decide, am_gi 387 (by decide +kernel) rfl, am_gi 3 (by decide +kernel) rfl, by decide +kernel, by decide⟩, am_gi 386 (by decide +kernel) rfl⟩
def m5_add : am_M := (yX5_add, cX5_add, 4, none)
theorem m5_add_V : am_mV m5_add 3 5 := ⟨⟨by decide, am_gi 396 (by decide +kernel) rfl, am_gi 3 (by decide +kernel) rfl, by decide +kernel, by decide⟩, by decide, rfl, am_gi 395 (by decide +kernel) rfl, am_gs (n := 4) 3 (by decide +kernel)⟩
def m2_readToken : am_M := (yX2_readToken, cX2_readToken, 1, none)
theorem m2_readToken_V : am_mV m2_readToken 0 2 := ⟨⟨by decide, am_gi 404 (by decide +kernel) rfl, am_gi 2 (by decide +kernel) rfl, by decide +kernel, by decide⟩, by decide, rfl, am_gi 403 (by decide +kernel) rfl, am_gs (n := 6) 4 (by decide +kernel)⟩
def m2_readItem : am_M := (yX2_readItem, cX2_readItem, 2, (some .boolean))
theorem m2_readItem_V : am_mV m2_readItem 1 2 := ⟨⟨by decide, am_gi 408 (by decide +kernel) rfl, am_gi 2 (by decide +kernel) rfl, by decide +kernel, by decide⟩, by decide, rfl, am_gi 407 (by decide +kernel) rfl, am_gs (n := 6) 5 (by decide +kernel)⟩
def m2_readWall : am_M := (yX2_readWall, cX2_readWall, 2, (some .boolean))
theorem m2_readWall_V : am_mV m2_readWall 1 2 := ⟨⟨by decide, am_gi 412 (by decide +kernel) rfl, am_gi 2 (by decide +kernel) rfl, by decide +kernel, by decide⟩, by decide, rfl, am_gi 411 (by decide +kernel) rfl, am_gs (n := 6) 6 (by decide +kernel)⟩
def m2_readNumber : am_M := (yX2_readNumber, cX2_readNumber, 3, (some .boolean))
theorem m2_readNumber_V : am_mV m2_readNumber 2 2 := ⟨⟨by decide, am_gi 416 (by decide +kernel) rfl, am_gi 2 (by decide +kernel) rfl, by decide +kernel, by decide⟩, by decide, rfl, am_gi 415 (by decide +kernel) rfl, am_gs (n := 6) 7 (by decide +kernel)⟩
def m2_readPicture : am_M := (yX2_readPicture, cX2_readPicture, 5, (some .boolean))
theorem m2_readPicture_V : am_mV m2_readPicture 1 2 := ⟨⟨by decide, am_gi 420 (by decide +kernel) rfl, am_gi 2 (by decide +kernel) rfl, by decide +kernel, by decide⟩, by decide, rfl, am_gi 419 (by decide +kernel) rfl, am_gs (n := 6) 8 (by decide +kernel)⟩
def m6_addPicture : am_M := (yX6_addPicture, cX6_addPicture, 5, none)
theorem m6_addPicture_V : am_mV m6_addPicture 4 6 := ⟨⟨by decide, am_gi 424 (by decide +kernel) rfl, am_gi 4 (by decide +kernel) rfl, by decide +kernel, by decide⟩, by decide, rfl, am_gi 423 (by decide +kernel) rfl, am_gs (n := 15) 9 (by decide +kernel)⟩
def m2_readDoor : am_M := (yX2_readDoor, cX2_readDoor, 3, (some .boolean))
theorem m2_readDoor_V : am_mV m2_readDoor 1 2 := ⟨⟨by decide, am_gi 428 (by decide +kernel) rfl, am_gi 2 (by decide +kernel) rfl, by decide +kernel, by decide⟩, by decide, rfl, am_gi 427 (by decide +kernel) rfl, am_gs (n := 6) 10 (by decide +kernel)⟩
def m6_addDoor : am_M := (yX6_addDoor, cX6_addDoor, 3, none)
theorem m6_addDoor_V : am_mV m6_addDoor 2 6 := ⟨⟨by decide, am_gi 432 (by decide +kernel) rfl, am_gi 4 (by decide +kernel) rfl, by decide +kernel, by decide⟩, by decide, rfl, am_gi 431 (by decide +kernel) rfl, am_gs (n := 15) 11 (by decide +kernel)⟩
def m2_readHole : am_M := (yX2_readHole, cX2_readHole, 3, (some .boolean))
theorem m2_readHole_V : am_mV m2_readHole 1 2 := ⟨⟨by decide, am_gi 436 (by decide +kernel) rfl, am_gi 2 (by decide +kernel) rfl, by decide +kernel, by decide⟩, by decide, rfl, am_gi 435 (by decide +kernel) rfl, am_gs (n := 6) 12 (by decide +kernel)⟩
def m6_findHole : am_M := (yX6_findHole, cX6_findHole, 4, (some .int))
theorem m6_findHole_V : am_mV m6_findHole 2 6 := ⟨⟨by decide, am_gi 440 (by decide +kernel) rfl, am_gi 4 (by decide +kernel) rfl, by decide +kernel, by decide⟩, by decide, rfl, am_gi 439 (by decide +kernel) rfl, am_gs (n := 15) 13 (by decide +kernel)⟩
def m6_addHole : am_M := (yX6_addHole, cX6_addHole, 3, none)
theorem m6_addHole_V : am_mV m6_addHole 2 6 := ⟨⟨by decide, am_gi 444 (by decide +kernel) rfl, am_gi 4 (by decide +kernel) rfl, by decide +kernel, by decide⟩, by decide, rfl, am_gi 443 (by decide +kernel) rfl, am_gs (n := 15) 14 (by decide +kernel)⟩
def m2_readSemicolon : am_M := (yX2_readSemicolon, cX2_readSemicolon, 1, (some .boolean))
theorem m2_readSemicolon_V : am_mV m2_readSemicolon 0 2 := ⟨⟨by decide, am_gi 448 (by decide +kernel) rfl, am_gi 2 (by decide +kernel) rfl, by decide +kernel, by decide⟩, by decide, rfl, am_gi 447 (by decide +kernel) rfl, am_gs (n := 6) 15 (by decide +kernel)⟩
def m7_remember : am_M := (yX7_remember, cX7_remember, 1, none)
theorem m7_remember_V : am_mV m7_remember 0 7 := ⟨⟨by decide, am_gi 452 (by decide +kernel) rfl, am_gi 1 (by decide +kernel) rfl, by decide +kernel, by decide⟩, by decide, rfl, am_gi 451 (by decide +kernel) rfl, am_gs (n := 12) 16 (by decide +kernel)⟩
def m1_add : am_M := (yX1_add, cX1_add, 2, none)
theorem m1_add_V : am_mV m1_add 1 1 := ⟨⟨by decide, am_gi 456 (by decide +kernel) rfl, am_gi 5 (by decide +kernel) rfl, by decide +kernel, by decide⟩, by decide, rfl, am_gi 455 (by decide +kernel) rfl, am_gs (n := 2) 17 (by decide +kernel)⟩
def m1_loseOldest : am_M := (yX1_loseOldest, cX1_loseOldest, 3, none)
theorem m1_loseOldest_V : am_mV m1_loseOldest 0 1 := ⟨⟨by decide, am_gi 460 (by decide +kernel) rfl, am_gi 5 (by decide +kernel) rfl, by decide +kernel, by decide⟩, by decide, rfl, am_gi 459 (by decide +kernel) rfl, am_gs (n := 2) 18 (by decide +kernel)⟩
def m6_copyFrom : am_M := (yX6_copyFrom, cX6_copyFrom, 2, none)
theorem m6_copyFrom_V : am_mV m6_copyFrom 1 6 := ⟨⟨by decide, am_gi 464 (by decide +kernel) rfl, am_gi 4 (by decide +kernel) rfl, by decide +kernel, by decide⟩, by decide, rfl, am_gi 463 (by decide +kernel) rfl, am_gs (n := 15) 19 (by decide +kernel)⟩
def m7_hangs : am_M := (yX7_hangs, cX7_hangs, 4, (some .int))
theorem m7_hangs_V : am_mV m7_hangs 2 7 := ⟨⟨by decide, am_gi 473 (by decide +kernel) rfl, am_gi 1 (by decide +kernel) rfl, by decide +kernel, by decide⟩, by decide, rfl, am_gi 471 (by decide +kernel) rfl, am_gi 472 (by decide +kernel) rfl⟩
def m6_hasPicture : am_M := (yX6_hasPicture, cX6_hasPicture, 2, (some .boolean))
theorem m6_hasPicture_V : am_mV m6_hasPicture 1 6 := ⟨⟨by decide, am_gi 477 (by decide +kernel) rfl, am_gi 4 (by decide +kernel) rfl, by decide +kernel, by decide⟩, by decide, rfl, am_gi 476 (by decide +kernel) rfl, am_gs (n := 15) 20 (by decide +kernel)⟩
def m6_isUp : am_M := (yX6_isUp, cX6_isUp, 2, (some .boolean))
theorem m6_isUp_V : am_mV m6_isUp 1 6 := ⟨⟨by decide, am_gi 481 (by decide +kernel) rfl, am_gi 4 (by decide +kernel) rfl, by decide +kernel, by decide⟩, by decide, rfl, am_gi 480 (by decide +kernel) rfl, am_gs (n := 15) 21 (by decide +kernel)⟩
def m6_isFreeFor : am_M := (yX6_isFreeFor, cX6_isFreeFor, 3, (some .boolean))
theorem m6_isFreeFor_V : am_mV m6_isFreeFor 2 6 := ⟨⟨by decide, am_gi 486 (by decide +kernel) rfl, am_gi 4 (by decide +kernel) rfl, by decide +kernel, by decide⟩, by decide, rfl, am_gi 485 (by decide +kernel) rfl, am_gs (n := 15) 22 (by decide +kernel)⟩
def m6_fits : am_M := (yX6_fits, cX6_fits, 4, (some .boolean))
theorem m6_fits_V : am_mV m6_fits 2 6 := ⟨⟨by decide, am_gi 490 (by decide +kernel) rfl, am_gi 4 (by decide +kernel) rfl, by decide +kernel, by decide⟩, by decide, rfl, am_gi 489 (by decide +kernel) rfl, am_gs (n := 15) 23 (by decide +kernel)⟩
def m6_isApartFromAll : am_M := (yX6_isApartFromAll, cX6_isApartFromAll, 4, (some .boolean))
theorem m6_isApartFromAll_V : am_mV m6_isApartFromAll 2 6 := ⟨⟨by decide, am_gi 494 (by decide +kernel) rfl, am_gi 4 (by decide +kernel) rfl, by decide +kernel, by decide⟩, by decide, rfl, am_gi 493 (by decide +kernel) rfl, am_gs (n := 15) 24 (by decide +kernel)⟩
def m6_hasHoleFor : am_M := (yX6_hasHoleFor, cX6_hasHoleFor, 3, (some .boolean))
theorem m6_hasHoleFor_V : am_mV m6_hasHoleFor 2 6 := ⟨⟨by decide, am_gi 498 (by decide +kernel) rfl, am_gi 4 (by decide +kernel) rfl, by decide +kernel, by decide⟩, by decide, rfl, am_gi 497 (by decide +kernel) rfl, am_gs (n := 15) 25 (by decide +kernel)⟩
def m6_hookX : am_M := (yX6_hookX, cX6_hookX, 3, (some .int))
theorem m6_hookX_V : am_mV m6_hookX 2 6 := ⟨⟨by decide, am_gi 502 (by decide +kernel) rfl, am_gi 4 (by decide +kernel) rfl, by decide +kernel, by decide⟩, by decide, rfl, am_gi 501 (by decide +kernel) rfl, am_gs (n := 15) 26 (by decide +kernel)⟩
def m6_hookY : am_M := (yX6_hookY, cX6_hookY, 2, (some .int))
theorem m6_hookY_V : am_mV m6_hookY 1 6 := ⟨⟨by decide, am_gi 506 (by decide +kernel) rfl, am_gi 4 (by decide +kernel) rfl, by decide +kernel, by decide⟩, by decide, rfl, am_gi 505 (by decide +kernel) rfl, am_gs (n := 15) 27 (by decide +kernel)⟩
def m6_putUp : am_M := (yX6_putUp, cX6_putUp, 3, none)
theorem m6_putUp_V : am_mV m6_putUp 2 6 := ⟨⟨by decide, am_gi 511 (by decide +kernel) rfl, am_gi 4 (by decide +kernel) rfl, by decide +kernel, by decide⟩, by decide, rfl, am_gi 510 (by decide +kernel) rfl, am_gs (n := 15) 28 (by decide +kernel)⟩
def m7_takes : am_M := (yX7_takes, cX7_takes, 3, (some .int))
theorem m7_takes_V : am_mV m7_takes 1 7 := ⟨⟨by decide, am_gi 517 (by decide +kernel) rfl, am_gi 1 (by decide +kernel) rfl, by decide +kernel, by decide⟩, by decide, rfl, am_gi 515 (by decide +kernel) rfl, am_gi 516 (by decide +kernel) rfl⟩
def m7_fills : am_M := (yX7_fills, cX7_fills, 2, (some .int))
theorem m7_fills_V : am_mV m7_fills 1 7 := ⟨⟨by decide, am_gi 521 (by decide +kernel) rfl, am_gi 1 (by decide +kernel) rfl, by decide +kernel, by decide⟩, by decide, rfl, am_gi 519 (by decide +kernel) rfl, am_gi 520 (by decide +kernel) rfl⟩
def m6_hasHole : am_M := (yX6_hasHole, cX6_hasHole, 2, (some .boolean))
theorem m6_hasHole_V : am_mV m6_hasHole 1 6 := ⟨⟨by decide, am_gi 525 (by decide +kernel) rfl, am_gi 4 (by decide +kernel) rfl, by decide +kernel, by decide⟩, by decide, rfl, am_gi 524 (by decide +kernel) rfl, am_gs (n := 15) 29 (by decide +kernel)⟩
def m6_findPictureOn : am_M := (yX6_findPictureOn, cX6_findPictureOn, 3, (some .int))
theorem m6_findPictureOn_V : am_mV m6_findPictureOn 1 6 := ⟨⟨by decide, am_gi 529 (by decide +kernel) rfl, am_gi 4 (by decide +kernel) rfl, by decide +kernel, by decide⟩, by decide, rfl, am_gi 528 (by decide +kernel) rfl, am_gs (n := 15) 30 (by decide +kernel)⟩
def m6_removeHole : am_M := (yX6_removeHole, cX6_removeHole, 3, none)
theorem m6_removeHole_V : am_mV m6_removeHole 1 6 := ⟨⟨by decide, am_gi 534 (by decide +kernel) rfl, am_gi 4 (by decide +kernel) rfl, by decide +kernel, by decide⟩, by decide, rfl, am_gi 533 (by decide +kernel) rfl, am_gs (n := 15) 31 (by decide +kernel)⟩
def m7_lines : am_M := (yX7_lines, cX7_lines, 3, (some .int))
theorem m7_lines_V : am_mV m7_lines 1 7 := ⟨⟨by decide, am_gi 538 (by decide +kernel) rfl, am_gi 1 (by decide +kernel) rfl, by decide +kernel, by decide⟩, by decide, rfl, am_gi 536 (by decide +kernel) rfl, am_gi 537 (by decide +kernel) rfl⟩
def m6_takeAllDown : am_M := (yX6_takeAllDown, cX6_takeAllDown, 2, none)
theorem m6_takeAllDown_V : am_mV m6_takeAllDown 0 6 := ⟨⟨by decide, am_gi 542 (by decide +kernel) rfl, am_gi 4 (by decide +kernel) rfl, by decide +kernel, by decide⟩, by decide, rfl, am_gi 541 (by decide +kernel) rfl, am_gs (n := 15) 32 (by decide +kernel)⟩
def m7_undo : am_M := (yX7_undo, cX7_undo, 1, (some .int))
theorem m7_undo_V : am_mV m7_undo 0 7 := ⟨⟨by decide, am_gi 546 (by decide +kernel) rfl, am_gi 1 (by decide +kernel) rfl, by decide +kernel, by decide⟩, by decide, rfl, am_gi 544 (by decide +kernel) rfl, am_gi 545 (by decide +kernel) rfl⟩
def m1_giveLatestTo : am_M := (yX1_giveLatestTo, cX1_giveLatestTo, 2, (some .boolean))
theorem m1_giveLatestTo_V : am_mV m1_giveLatestTo 1 1 := ⟨⟨by decide, am_gi 550 (by decide +kernel) rfl, am_gi 5 (by decide +kernel) rfl, by decide +kernel, by decide⟩, by decide, rfl, am_gi 549 (by decide +kernel) rfl, am_gs (n := 2) 33 (by decide +kernel)⟩
def m7_picture : am_M := (yX7_picture, cX7_picture, 3, (some .int))
theorem m7_picture_V : am_mV m7_picture 2 7 := ⟨⟨by decide, am_gi 554 (by decide +kernel) rfl, am_gi 1 (by decide +kernel) rfl, by decide +kernel, by decide⟩, by decide, rfl, am_gi 552 (by decide +kernel) rfl, am_gi 553 (by decide +kernel) rfl⟩
def m7_hole : am_M := (yX7_hole, cX7_hole, 3, (some .int))
theorem m7_hole_V : am_mV m7_hole 2 7 := ⟨⟨by decide, am_gi 560 (by decide +kernel) rfl, am_gi 1 (by decide +kernel) rfl, by decide +kernel, by decide⟩, by decide, rfl, am_gi 558 (by decide +kernel) rfl, am_gi 559 (by decide +kernel) rfl⟩
def m7_door : am_M := (yX7_door, cX7_door, 3, (some .int))
theorem m7_door_V : am_mV m7_door 2 7 := ⟨⟨by decide, am_gi 564 (by decide +kernel) rfl, am_gi 1 (by decide +kernel) rfl, by decide +kernel, by decide⟩, by decide, rfl, am_gi 562 (by decide +kernel) rfl, am_gi 563 (by decide +kernel) rfl⟩
def m6_hasDoor : am_M := (yX6_hasDoor, cX6_hasDoor, 2, (some .boolean))
theorem m6_hasDoor_V : am_mV m6_hasDoor 1 6 := ⟨⟨by decide, am_gi 568 (by decide +kernel) rfl, am_gi 4 (by decide +kernel) rfl, by decide +kernel, by decide⟩, by decide, rfl, am_gi 567 (by decide +kernel) rfl, am_gs (n := 15) 34 (by decide +kernel)⟩
def m7_moment : am_M := (yX7_moment, cX7_moment, 2, (some .int))
theorem m7_moment_V : am_mV m7_moment 1 7 := ⟨⟨by decide, am_gi 572 (by decide +kernel) rfl, am_gi 1 (by decide +kernel) rfl, by decide +kernel, by decide⟩, by decide, rfl, am_gi 570 (by decide +kernel) rfl, am_gi 571 (by decide +kernel) rfl⟩
def m6_momentNow : am_M := (yX6_momentNow, cX6_momentNow, 3, (some .int))
theorem m6_momentNow_V : am_mV m6_momentNow 0 6 := ⟨⟨by decide, am_gi 576 (by decide +kernel) rfl, am_gi 4 (by decide +kernel) rfl, by decide +kernel, by decide⟩, by decide, rfl, am_gi 575 (by decide +kernel) rfl, am_gs (n := 15) 35 (by decide +kernel)⟩
def m6_momentAt : am_M := (yX6_momentAt, cX6_momentAt, 3, (some .int))
theorem m6_momentAt_V : am_mV m6_momentAt 2 6 := ⟨⟨by decide, am_gi 580 (by decide +kernel) rfl, am_gi 4 (by decide +kernel) rfl, by decide +kernel, by decide⟩, by decide, rfl, am_gi 579 (by decide +kernel) rfl, am_gs (n := 15) 36 (by decide +kernel)⟩
def m7_best : am_M := (yX7_best, cX7_best, 2, (some .int))
theorem m7_best_V : am_mV m7_best 1 7 := ⟨⟨by decide, am_gi 587 (by decide +kernel) rfl, am_gi 1 (by decide +kernel) rfl, by decide +kernel, by decide⟩, by decide, rfl, am_gi 585 (by decide +kernel) rfl, am_gi 586 (by decide +kernel) rfl⟩
def m3_search : am_M := (yX3_search, cX3_search, 4, none)
theorem m3_search_V : am_mV m3_search 1 3 := ⟨⟨by decide, am_gi 591 (by decide +kernel) rfl, am_gi 6 (by decide +kernel) rfl, by decide +kernel, by decide⟩, by decide, rfl, am_gi 590 (by decide +kernel) rfl, am_gs (n := 14) 37 (by decide +kernel)⟩
def m3_markPlaces : am_M := (yX3_markPlaces, cX3_markPlaces, 4, none)
theorem m3_markPlaces_V : am_mV m3_markPlaces 2 3 := ⟨⟨by decide, am_gi 595 (by decide +kernel) rfl, am_gi 6 (by decide +kernel) rfl, by decide +kernel, by decide⟩, by decide, rfl, am_gi 594 (by decide +kernel) rfl, am_gs (n := 14) 38 (by decide +kernel)⟩
def m3_tryAllGaps : am_M := (yX3_tryAllGaps, cX3_tryAllGaps, 5, none)
theorem m3_tryAllGaps_V : am_mV m3_tryAllGaps 2 3 := ⟨⟨by decide, am_gi 603 (by decide +kernel) rfl, am_gi 6 (by decide +kernel) rfl, by decide +kernel, by decide⟩, by decide, rfl, am_gi 602 (by decide +kernel) rfl, am_gs (n := 14) 39 (by decide +kernel)⟩
def m3_tryOrders : am_M := (yX3_tryOrders, cX3_tryOrders, 8, none)
theorem m3_tryOrders_S : am_mS m3_tryOrders 7 := ⟨⟨by decide, am_gi 606 (by decide +kernel) rfl, am_gi 6 (by decide +kernel) rfl, by decide +kernel, by decide⟩, am_gi 605 (by decide +kernel) rfl⟩
def m3_takeIfBetter : am_M := (yX3_takeIfBetter, cX3_takeIfBetter, 3, none)
theorem m3_takeIfBetter_V : am_mV m3_takeIfBetter 2 3 := ⟨⟨by decide, am_gi 611 (by decide +kernel) rfl, am_gi 6 (by decide +kernel) rfl, by decide +kernel, by decide⟩, by decide, rfl, am_gi 610 (by decide +kernel) rfl, am_gs (n := 14) 40 (by decide +kernel)⟩
def m3_isMarked : am_M := (yX3_isMarked, cX3_isMarked, 3, (some .boolean))
theorem m3_isMarked_S : am_mS m3_isMarked 2 := ⟨⟨by decide, am_gi 615 (by decide +kernel) rfl, am_gi 6 (by decide +kernel) rfl, by decide +kernel, by decide⟩, am_gi 614 (by decide +kernel) rfl⟩
def m3_answer : am_M := (yX3_answer, cX3_answer, 2, (some .int))
theorem m3_answer_V : am_mV m3_answer 1 3 := ⟨⟨by decide, am_gi 619 (by decide +kernel) rfl, am_gi 6 (by decide +kernel) rfl, by decide +kernel, by decide⟩, by decide, rfl, am_gi 618 (by decide +kernel) rfl, am_gs (n := 14) 41 (by decide +kernel)⟩
def m3_pictureAt : am_M := (yX3_pictureAt, cX3_pictureAt, 2, (some .int))
theorem m3_pictureAt_V : am_mV m3_pictureAt 1 3 := ⟨⟨by decide, am_gi 623 (by decide +kernel) rfl, am_gi 6 (by decide +kernel) rfl, by decide +kernel, by decide⟩, by decide, rfl, am_gi 622 (by decide +kernel) rfl, am_gs (n := 14) 42 (by decide +kernel)⟩
def m7_places : am_M := (yX7_places, cX7_places, 3, (some .int))
theorem m7_places_V : am_mV m7_places 2 7 := ⟨⟨by decide, am_gi 627 (by decide +kernel) rfl, am_gi 1 (by decide +kernel) rfl, by decide +kernel, by decide⟩, by decide, rfl, am_gi 625 (by decide +kernel) rfl, am_gi 626 (by decide +kernel) rfl⟩
def m7_countPlaces : am_M := (yX7_countPlaces, cX7_countPlaces, 4, (some .int))
theorem m7_countPlaces_V : am_mV m7_countPlaces 1 7 := ⟨⟨by decide, am_gi 631 (by decide +kernel) rfl, am_gi 1 (by decide +kernel) rfl, by decide +kernel, by decide⟩, by decide, rfl, am_gi 630 (by decide +kernel) rfl, am_gs (n := 12) 43 (by decide +kernel)⟩
def m7_leastPlace : am_M := (yX7_leastPlace, cX7_leastPlace, 4, (some .int))
theorem m7_leastPlace_V : am_mV m7_leastPlace 2 7 := ⟨⟨by decide, am_gi 635 (by decide +kernel) rfl, am_gi 1 (by decide +kernel) rfl, by decide +kernel, by decide⟩, by decide, rfl, am_gi 634 (by decide +kernel) rfl, am_gs (n := 12) 44 (by decide +kernel)⟩
def m7_calmestPlace : am_M := (yX7_calmestPlace, cX7_calmestPlace, 7, (some .int))
theorem m7_calmestPlace_V : am_mV m7_calmestPlace 1 7 := ⟨⟨by decide, am_gi 639 (by decide +kernel) rfl, am_gi 1 (by decide +kernel) rfl, by decide +kernel, by decide⟩, by decide, rfl, am_gi 638 (by decide +kernel) rfl, am_gs (n := 12) 45 (by decide +kernel)⟩
def m7_most : am_M := (yX7_most, cX7_most, 1, (some .int))
theorem m7_most_V : am_mV m7_most 0 7 := ⟨⟨by decide, am_gi 644 (by decide +kernel) rfl, am_gi 1 (by decide +kernel) rfl, by decide +kernel, by decide⟩, by decide, rfl, am_gi 642 (by decide +kernel) rfl, am_gi 643 (by decide +kernel) rfl⟩
def m0_largestSet : am_M := (yX0_largestSet, cX0_largestSet, 4, (some .int))
theorem m0_largestSet_V : am_mV m0_largestSet 1 0 := ⟨⟨by decide, am_gi 648 (by decide +kernel) rfl, am_gi 7 (by decide +kernel) rfl, by decide +kernel, by decide⟩, by decide, rfl, am_gi 647 (by decide +kernel) rfl, am_gs (n := 1) 46 (by decide +kernel)⟩
def m0_leastEnd : am_M := (yX0_leastEnd, cX0_leastEnd, 7, (some .int))
theorem m0_leastEnd_V : am_mV m0_leastEnd 2 0 := ⟨⟨by decide, am_gi 652 (by decide +kernel) rfl, am_gi 7 (by decide +kernel) rfl, by decide +kernel, by decide⟩, by decide, rfl, am_gi 651 (by decide +kernel) rfl, am_gs (n := 1) 47 (by decide +kernel)⟩
def m6_firstFit : am_M := (yX6_firstFit, cX6_firstFit, 4, (some .int))
theorem m6_firstFit_V : am_mV m6_firstFit 2 6 := ⟨⟨by decide, am_gi 656 (by decide +kernel) rfl, am_gi 4 (by decide +kernel) rfl, by decide +kernel, by decide⟩, by decide, rfl, am_gi 655 (by decide +kernel) rfl, am_gs (n := 15) 48 (by decide +kernel)⟩
def m0_isBetter : am_M := (yX0_isBetter, cX0_isBetter, 4, (some .boolean))
theorem m0_isBetter_S : am_mS m0_isBetter 3 := ⟨⟨by decide, am_gi 660 (by decide +kernel) rfl, am_gi 7 (by decide +kernel) rfl, by decide +kernel, by decide⟩, am_gi 659 (by decide +kernel) rfl⟩
def j6_bitCount_0f7a4 : am_M := (yJ6_bitCount_0f7a4, cJ6_bitCount_0f7a4, 1, (some .int))
theorem j6_bitCount_0f7a4_S : am_mS j6_bitCount_0f7a4 1 := ⟨⟨by decide, am_gi 663 (by decide +kernel) rfl, am_gi 16 (by decide +kernel) rfl, by decide +kernel, by decide⟩, am_gi 662 (by decide +kernel) rfl⟩
def m0_weightOf : am_M := (yX0_weightOf, cX0_weightOf, 4, (some .int))
theorem m0_weightOf_S : am_mS m0_weightOf 2 := ⟨⟨by decide, am_gi 669 (by decide +kernel) rfl, am_gi 7 (by decide +kernel) rfl, by decide +kernel, by decide⟩, am_gi 668 (by decide +kernel) rfl⟩
def m7_sees : am_M := (yX7_sees, cX7_sees, 3, (some .int))
theorem m7_sees_V : am_mV m7_sees 2 7 := ⟨⟨by decide, am_gi 673 (by decide +kernel) rfl, am_gi 1 (by decide +kernel) rfl, by decide +kernel, by decide⟩, by decide, rfl, am_gi 671 (by decide +kernel) rfl, am_gi 672 (by decide +kernel) rfl⟩
def m4_add : am_M := (yX4_add, cX4_add, 3, none)
theorem m4_add_V : am_mV m4_add 2 4 := ⟨⟨by decide, am_gi 677 (by decide +kernel) rfl, am_gi 8 (by decide +kernel) rfl, by decide +kernel, by decide⟩, by decide, rfl, am_gi 676 (by decide +kernel) rfl, am_gs (n := 3) 49 (by decide +kernel)⟩
def m7_forget : am_M := (yX7_forget, cX7_forget, 2, (some .int))
theorem m7_forget_V : am_mV m7_forget 0 7 := ⟨⟨by decide, am_gi 681 (by decide +kernel) rfl, am_gi 1 (by decide +kernel) rfl, by decide +kernel, by decide⟩, by decide, rfl, am_gi 679 (by decide +kernel) rfl, am_gi 680 (by decide +kernel) rfl⟩
def m7_which : am_M := (yX7_which, cX7_which, 2, (some .int))
theorem m7_which_V : am_mV m7_which 1 7 := ⟨⟨by decide, am_gi 685 (by decide +kernel) rfl, am_gi 1 (by decide +kernel) rfl, by decide +kernel, by decide⟩, by decide, rfl, am_gi 683 (by decide +kernel) rfl, am_gi 684 (by decide +kernel) rfl⟩
def m4_countMatches : am_M := (yX4_countMatches, cX4_countMatches, 4, (some .int))
theorem m4_countMatches_V : am_mV m4_countMatches 1 4 := ⟨⟨by decide, am_gi 689 (by decide +kernel) rfl, am_gi 8 (by decide +kernel) rfl, by decide +kernel, by decide⟩, by decide, rfl, am_gi 688 (by decide +kernel) rfl, am_gs (n := 3) 50 (by decide +kernel)⟩
def m4_matches : am_M := (yX4_matches, cX4_matches, 4, (some .boolean))
theorem m4_matches_V : am_mV m4_matches 2 4 := ⟨⟨by decide, am_gi 693 (by decide +kernel) rfl, am_gi 8 (by decide +kernel) rfl, by decide +kernel, by decide⟩, by decide, rfl, am_gi 692 (by decide +kernel) rfl, am_gs (n := 3) 51 (by decide +kernel)⟩
def m4_measured : am_M := (yX4_measured, cX4_measured, 3, (some .int))
theorem m4_measured_S : am_mS m4_measured 3 := ⟨⟨by decide, am_gi 696 (by decide +kernel) rfl, am_gi 8 (by decide +kernel) rfl, by decide +kernel, by decide⟩, am_gi 695 (by decide +kernel) rfl⟩
def m4_leastMatch : am_M := (yX4_leastMatch, cX4_leastMatch, 3, (some .int))
theorem m4_leastMatch_V : am_mV m4_leastMatch 1 4 := ⟨⟨by decide, am_gi 703 (by decide +kernel) rfl, am_gi 8 (by decide +kernel) rfl, by decide +kernel, by decide⟩, by decide, rfl, am_gi 702 (by decide +kernel) rfl, am_gs (n := 3) 52 (by decide +kernel)⟩
def m7_keep : am_M := (yX7_keep, cX7_keep, 2, (some .int))
theorem m7_keep_V : am_mV m7_keep 1 7 := ⟨⟨by decide, am_gi 707 (by decide +kernel) rfl, am_gi 1 (by decide +kernel) rfl, by decide +kernel, by decide⟩, by decide, rfl, am_gi 705 (by decide +kernel) rfl, am_gi 706 (by decide +kernel) rfl⟩
def m6_countUp : am_M := (yX6_countUp, cX6_countUp, 3, (some .int))
theorem m6_countUp_V : am_mV m6_countUp 0 6 := ⟨⟨by decide, am_gi 711 (by decide +kernel) rfl, am_gi 4 (by decide +kernel) rfl, by decide +kernel, by decide⟩, by decide, rfl, am_gi 710 (by decide +kernel) rfl, am_gs (n := 15) 53 (by decide +kernel)⟩
def m7_back : am_M := (yX7_back, cX7_back, 2, (some .int))
theorem m7_back_V : am_mV m7_back 1 7 := ⟨⟨by decide, am_gi 715 (by decide +kernel) rfl, am_gi 1 (by decide +kernel) rfl, by decide +kernel, by decide⟩, by decide, rfl, am_gi 713 (by decide +kernel) rfl, am_gi 714 (by decide +kernel) rfl⟩
def m7_count : am_M := (yX7_count, cX7_count, 2, (some .int))
theorem m7_count_V : am_mV m7_count 1 7 := ⟨⟨by decide, am_gi 719 (by decide +kernel) rfl, am_gi 1 (by decide +kernel) rfl, by decide +kernel, by decide⟩, by decide, rfl, am_gi 717 (by decide +kernel) rfl, am_gi 718 (by decide +kernel) rfl⟩
def m8_init : am_M := (yX8_init, cX8_init, 1, none)
theorem m8_init_I : am_mI m8_init 0 := ⟨⟨by decide, am_gi 724 (by decide +kernel) rfl, am_gi 9 (by decide +kernel) rfl, by decide +kernel, by decide⟩, rfl, rfl, am_gi 723 (by decide +kernel) rfl⟩
def m8_bares : am_M := (yX8_bares, cX8_bares, 2, none)
theorem m8_bares_S : am_mS m8_bares 1 := ⟨⟨by decide, am_gi 728 (by decide +kernel) rfl, am_gi 9 (by decide +kernel) rfl, by decide +kernel, by decide⟩, am_gi 727 (by decide +kernel) rfl⟩
def m8_type : am_M := (yX8_type, cX8_type, 2, (some .int))
theorem m8_type_V : am_mV m8_type 1 8 := ⟨⟨by decide, am_gi 796 (by decide +kernel) rfl, am_gi 9 (by decide +kernel) rfl, by decide +kernel, by decide⟩, by decide, rfl, am_gi 794 (by decide +kernel) rfl, am_gi 795 (by decide +kernel) rfl⟩
def m8_within : am_M := (yX8_within, cX8_within, 3, (some .boolean))
theorem m8_within_S : am_mS m8_within 3 := ⟨⟨by decide, am_gi 799 (by decide +kernel) rfl, am_gi 9 (by decide +kernel) rfl, by decide +kernel, by decide⟩, am_gi 798 (by decide +kernel) rfl⟩
def m8_clear : am_M := (yX8_clear, cX8_clear, 2, (some .int))
theorem m8_clear_V : am_mV m8_clear 0 8 := ⟨⟨by decide, am_gi 803 (by decide +kernel) rfl, am_gi 9 (by decide +kernel) rfl, by decide +kernel, by decide⟩, by decide, rfl, am_gi 801 (by decide +kernel) rfl, am_gi 802 (by decide +kernel) rfl⟩
def m8_tells : am_M := (yX8_tells, cX8_tells, 3, (some .int))
theorem m8_tells_V : am_mV m8_tells 0 8 := ⟨⟨by decide, am_gi 807 (by decide +kernel) rfl, am_gi 9 (by decide +kernel) rfl, by decide +kernel, by decide⟩, by decide, rfl, am_gi 805 (by decide +kernel) rfl, am_gi 806 (by decide +kernel) rfl⟩
def m8_reads : am_M := (yX8_reads, cX8_reads, 2, (some .int))
theorem m8_reads_V : am_mV m8_reads 0 8 := ⟨⟨by decide, am_gi 811 (by decide +kernel) rfl, am_gi 9 (by decide +kernel) rfl, by decide +kernel, by decide⟩, by decide, rfl, am_gi 810 (by decide +kernel) rfl, am_gs (n := 21) 54 (by decide +kernel)⟩
def m8_skips : am_M := (yX8_skips, cX8_skips, 1, none)
theorem m8_skips_V : am_mV m8_skips 0 8 := ⟨⟨by decide, am_gi 815 (by decide +kernel) rfl, am_gi 9 (by decide +kernel) rfl, by decide +kernel, by decide⟩, by decide, rfl, am_gi 814 (by decide +kernel) rfl, am_gs (n := 21) 55 (by decide +kernel)⟩
def m8_readsItem : am_M := (yX8_readsItem, cX8_readsItem, 1, (some .boolean))
theorem m8_readsItem_V : am_mV m8_readsItem 0 8 := ⟨⟨by decide, am_gi 819 (by decide +kernel) rfl, am_gi 9 (by decide +kernel) rfl, by decide +kernel, by decide⟩, by decide, rfl, am_gi 818 (by decide +kernel) rfl, am_gs (n := 21) 56 (by decide +kernel)⟩
def m8_isAt : am_M := (yX8_isAt, cX8_isAt, 3, (some .boolean))
theorem m8_isAt_V : am_mV m8_isAt 2 8 := ⟨⟨by decide, am_gi 823 (by decide +kernel) rfl, am_gi 9 (by decide +kernel) rfl, by decide +kernel, by decide⟩, by decide, rfl, am_gi 822 (by decide +kernel) rfl, am_gs (n := 21) 57 (by decide +kernel)⟩
def m8_spells : am_M := (yX8_spells, cX8_spells, 7, (some .boolean))
theorem m8_spells_V : am_mV m8_spells 4 8 := ⟨⟨by decide, am_gi 827 (by decide +kernel) rfl, am_gi 9 (by decide +kernel) rfl, by decide +kernel, by decide⟩, by decide, rfl, am_gi 826 (by decide +kernel) rfl, am_gs (n := 21) 58 (by decide +kernel)⟩
def m8_readsWall : am_M := (yX8_readsWall, cX8_readsWall, 2, (some .boolean))
theorem m8_readsWall_V : am_mV m8_readsWall 0 8 := ⟨⟨by decide, am_gi 831 (by decide +kernel) rfl, am_gi 9 (by decide +kernel) rfl, by decide +kernel, by decide⟩, by decide, rfl, am_gi 830 (by decide +kernel) rfl, am_gs (n := 21) 59 (by decide +kernel)⟩
def m8_puts : am_M := (yX8_puts, cX8_puts, 6, (some .boolean))
theorem m8_puts_V : am_mV m8_puts 3 8 := ⟨⟨by decide, am_gi 835 (by decide +kernel) rfl, am_gi 9 (by decide +kernel) rfl, by decide +kernel, by decide⟩, by decide, rfl, am_gi 834 (by decide +kernel) rfl, am_gs (n := 21) 60 (by decide +kernel)⟩
def m8_readsPicture : am_M := (yX8_readsPicture, cX8_readsPicture, 2, (some .boolean))
theorem m8_readsPicture_V : am_mV m8_readsPicture 0 8 := ⟨⟨by decide, am_gi 839 (by decide +kernel) rfl, am_gi 9 (by decide +kernel) rfl, by decide +kernel, by decide⟩, by decide, rfl, am_gi 838 (by decide +kernel) rfl, am_gs (n := 21) 61 (by decide +kernel)⟩
def m8_readsDoor : am_M := (yX8_readsDoor, cX8_readsDoor, 2, (some .boolean))
theorem m8_readsDoor_V : am_mV m8_readsDoor 0 8 := ⟨⟨by decide, am_gi 843 (by decide +kernel) rfl, am_gi 9 (by decide +kernel) rfl, by decide +kernel, by decide⟩, by decide, rfl, am_gi 842 (by decide +kernel) rfl, am_gs (n := 21) 62 (by decide +kernel)⟩
def m8_readsHole : am_M := (yX8_readsHole, cX8_readsHole, 3, (some .boolean))
theorem m8_readsHole_V : am_mV m8_readsHole 0 8 := ⟨⟨by decide, am_gi 847 (by decide +kernel) rfl, am_gi 9 (by decide +kernel) rfl, by decide +kernel, by decide⟩, by decide, rfl, am_gi 846 (by decide +kernel) rfl, am_gs (n := 21) 63 (by decide +kernel)⟩
def m8_passesEnd : am_M := (yX8_passesEnd, cX8_passesEnd, 2, (some .boolean))
theorem m8_passesEnd_V : am_mV m8_passesEnd 0 8 := ⟨⟨by decide, am_gi 851 (by decide +kernel) rfl, am_gi 9 (by decide +kernel) rfl, by decide +kernel, by decide⟩, by decide, rfl, am_gi 850 (by decide +kernel) rfl, am_gs (n := 21) 64 (by decide +kernel)⟩
def m8_keeps : am_M := (yX8_keeps, cX8_keeps, 2, none)
theorem m8_keeps_V : am_mV m8_keeps 0 8 := ⟨⟨by decide, am_gi 855 (by decide +kernel) rfl, am_gi 9 (by decide +kernel) rfl, by decide +kernel, by decide⟩, by decide, rfl, am_gi 854 (by decide +kernel) rfl, am_gs (n := 21) 65 (by decide +kernel)⟩
def m8_hangs : am_M := (yX8_hangs, cX8_hangs, 5, (some .int))
theorem m8_hangs_V : am_mV m8_hangs 2 8 := ⟨⟨by decide, am_gi 859 (by decide +kernel) rfl, am_gi 9 (by decide +kernel) rfl, by decide +kernel, by decide⟩, by decide, rfl, am_gi 857 (by decide +kernel) rfl, am_gi 858 (by decide +kernel) rfl⟩
def m8_isPicture : am_M := (yX8_isPicture, cX8_isPicture, 2, (some .boolean))
theorem m8_isPicture_V : am_mV m8_isPicture 1 8 := ⟨⟨by decide, am_gi 863 (by decide +kernel) rfl, am_gi 9 (by decide +kernel) rfl, by decide +kernel, by decide⟩, by decide, rfl, am_gi 862 (by decide +kernel) rfl, am_gs (n := 21) 66 (by decide +kernel)⟩
def m8_hangsNow : am_M := (yX8_hangsNow, cX8_hangsNow, 2, (some .boolean))
theorem m8_hangsNow_V : am_mV m8_hangsNow 1 8 := ⟨⟨by decide, am_gi 867 (by decide +kernel) rfl, am_gi 9 (by decide +kernel) rfl, by decide +kernel, by decide⟩, by decide, rfl, am_gi 866 (by decide +kernel) rfl, am_gs (n := 21) 67 (by decide +kernel)⟩
def m8_doesFit : am_M := (yX8_doesFit, cX8_doesFit, 6, (some .boolean))
theorem m8_doesFit_V : am_mV m8_doesFit 2 8 := ⟨⟨by decide, am_gi 871 (by decide +kernel) rfl, am_gi 9 (by decide +kernel) rfl, by decide +kernel, by decide⟩, by decide, rfl, am_gi 870 (by decide +kernel) rfl, am_gs (n := 21) 68 (by decide +kernel)⟩
def m8_ofPicture : am_M := (yX8_ofPicture, cX8_ofPicture, 3, (some .int))
theorem m8_ofPicture_V : am_mV m8_ofPicture 2 8 := ⟨⟨by decide, am_gi 875 (by decide +kernel) rfl, am_gi 9 (by decide +kernel) rfl, by decide +kernel, by decide⟩, by decide, rfl, am_gi 874 (by decide +kernel) rfl, am_gs (n := 21) 69 (by decide +kernel)⟩
def m8_isApart : am_M := (yX8_isApart, cX8_isApart, 8, (some .boolean))
theorem m8_isApart_V : am_mV m8_isApart 2 8 := ⟨⟨by decide, am_gi 879 (by decide +kernel) rfl, am_gi 9 (by decide +kernel) rfl, by decide +kernel, by decide⟩, by decide, rfl, am_gi 878 (by decide +kernel) rfl, am_gs (n := 21) 70 (by decide +kernel)⟩
def m8_hasHole : am_M := (yX8_hasHole, cX8_hasHole, 3, (some .boolean))
theorem m8_hasHole_V : am_mV m8_hasHole 2 8 := ⟨⟨by decide, am_gi 883 (by decide +kernel) rfl, am_gi 9 (by decide +kernel) rfl, by decide +kernel, by decide⟩, by decide, rfl, am_gi 882 (by decide +kernel) rfl, am_gs (n := 21) 71 (by decide +kernel)⟩
def m8_hookX : am_M := (yX8_hookX, cX8_hookX, 3, (some .int))
theorem m8_hookX_V : am_mV m8_hookX 2 8 := ⟨⟨by decide, am_gi 887 (by decide +kernel) rfl, am_gi 9 (by decide +kernel) rfl, by decide +kernel, by decide⟩, by decide, rfl, am_gi 886 (by decide +kernel) rfl, am_gs (n := 21) 72 (by decide +kernel)⟩
def m8_hookY : am_M := (yX8_hookY, cX8_hookY, 2, (some .int))
theorem m8_hookY_V : am_mV m8_hookY 1 8 := ⟨⟨by decide, am_gi 891 (by decide +kernel) rfl, am_gi 9 (by decide +kernel) rfl, by decide +kernel, by decide⟩, by decide, rfl, am_gi 890 (by decide +kernel) rfl, am_gs (n := 21) 73 (by decide +kernel)⟩
def m8_holeAt : am_M := (yX8_holeAt, cX8_holeAt, 5, (some .int))
theorem m8_holeAt_V : am_mV m8_holeAt 2 8 := ⟨⟨by decide, am_gi 895 (by decide +kernel) rfl, am_gi 9 (by decide +kernel) rfl, by decide +kernel, by decide⟩, by decide, rfl, am_gi 894 (by decide +kernel) rfl, am_gs (n := 21) 74 (by decide +kernel)⟩
def m8_takes : am_M := (yX8_takes, cX8_takes, 3, (some .int))
theorem m8_takes_V : am_mV m8_takes 1 8 := ⟨⟨by decide, am_gi 899 (by decide +kernel) rfl, am_gi 9 (by decide +kernel) rfl, by decide +kernel, by decide⟩, by decide, rfl, am_gi 897 (by decide +kernel) rfl, am_gi 898 (by decide +kernel) rfl⟩
def m8_fills : am_M := (yX8_fills, cX8_fills, 3, (some .int))
theorem m8_fills_V : am_mV m8_fills 1 8 := ⟨⟨by decide, am_gi 903 (by decide +kernel) rfl, am_gi 9 (by decide +kernel) rfl, by decide +kernel, by decide⟩, by decide, rfl, am_gi 901 (by decide +kernel) rfl, am_gi 902 (by decide +kernel) rfl⟩
def m8_isHole : am_M := (yX8_isHole, cX8_isHole, 2, (some .boolean))
theorem m8_isHole_V : am_mV m8_isHole 1 8 := ⟨⟨by decide, am_gi 907 (by decide +kernel) rfl, am_gi 9 (by decide +kernel) rfl, by decide +kernel, by decide⟩, by decide, rfl, am_gi 906 (by decide +kernel) rfl, am_gs (n := 21) 75 (by decide +kernel)⟩
def m8_hangingAt : am_M := (yX8_hangingAt, cX8_hangingAt, 5, (some .int))
theorem m8_hangingAt_V : am_mV m8_hangingAt 1 8 := ⟨⟨by decide, am_gi 911 (by decide +kernel) rfl, am_gi 9 (by decide +kernel) rfl, by decide +kernel, by decide⟩, by decide, rfl, am_gi 910 (by decide +kernel) rfl, am_gs (n := 21) 76 (by decide +kernel)⟩
def m8_lines : am_M := (yX8_lines, cX8_lines, 4, (some .int))
theorem m8_lines_V : am_mV m8_lines 1 8 := ⟨⟨by decide, am_gi 915 (by decide +kernel) rfl, am_gi 9 (by decide +kernel) rfl, by decide +kernel, by decide⟩, by decide, rfl, am_gi 913 (by decide +kernel) rfl, am_gi 914 (by decide +kernel) rfl⟩
def m8_undo : am_M := (yX8_undo, cX8_undo, 2, (some .int))
theorem m8_undo_V : am_mV m8_undo 0 8 := ⟨⟨by decide, am_gi 919 (by decide +kernel) rfl, am_gi 9 (by decide +kernel) rfl, by decide +kernel, by decide⟩, by decide, rfl, am_gi 917 (by decide +kernel) rfl, am_gi 918 (by decide +kernel) rfl⟩
def m8_picture : am_M := (yX8_picture, cX8_picture, 3, (some .int))
theorem m8_picture_V : am_mV m8_picture 2 8 := ⟨⟨by decide, am_gi 923 (by decide +kernel) rfl, am_gi 9 (by decide +kernel) rfl, by decide +kernel, by decide⟩, by decide, rfl, am_gi 921 (by decide +kernel) rfl, am_gi 922 (by decide +kernel) rfl⟩
def m8_hole : am_M := (yX8_hole, cX8_hole, 3, (some .int))
theorem m8_hole_V : am_mV m8_hole 2 8 := ⟨⟨by decide, am_gi 928 (by decide +kernel) rfl, am_gi 9 (by decide +kernel) rfl, by decide +kernel, by decide⟩, by decide, rfl, am_gi 926 (by decide +kernel) rfl, am_gi 927 (by decide +kernel) rfl⟩
def m8_door : am_M := (yX8_door, cX8_door, 3, (some .int))
theorem m8_door_V : am_mV m8_door 2 8 := ⟨⟨by decide, am_gi 932 (by decide +kernel) rfl, am_gi 9 (by decide +kernel) rfl, by decide +kernel, by decide⟩, by decide, rfl, am_gi 930 (by decide +kernel) rfl, am_gi 931 (by decide +kernel) rfl⟩
def m8_moment : am_M := (yX8_moment, cX8_moment, 2, (some .int))
theorem m8_moment_V : am_mV m8_moment 1 8 := ⟨⟨by decide, am_gi 936 (by decide +kernel) rfl, am_gi 9 (by decide +kernel) rfl, by decide +kernel, by decide⟩, by decide, rfl, am_gi 934 (by decide +kernel) rfl, am_gi 935 (by decide +kernel) rfl⟩
def m8_momentNow : am_M := (yX8_momentNow, cX8_momentNow, 3, (some .int))
theorem m8_momentNow_V : am_mV m8_momentNow 0 8 := ⟨⟨by decide, am_gi 940 (by decide +kernel) rfl, am_gi 9 (by decide +kernel) rfl, by decide +kernel, by decide⟩, by decide, rfl, am_gi 939 (by decide +kernel) rfl, am_gs (n := 21) 77 (by decide +kernel)⟩
def m8_leanOf : am_M := (yX8_leanOf, cX8_leanOf, 3, (some .int))
theorem m8_leanOf_V : am_mV m8_leanOf 2 8 := ⟨⟨by decide, am_gi 944 (by decide +kernel) rfl, am_gi 9 (by decide +kernel) rfl, by decide +kernel, by decide⟩, by decide, rfl, am_gi 943 (by decide +kernel) rfl, am_gs (n := 21) 78 (by decide +kernel)⟩
def m8_off : am_M := (yX8_off, cX8_off, 1, (some .int))
theorem m8_off_S : am_mS m8_off 1 := ⟨⟨by decide, am_gi 947 (by decide +kernel) rfl, am_gi 9 (by decide +kernel) rfl, by decide +kernel, by decide⟩, am_gi 946 (by decide +kernel) rfl⟩
def m8_best : am_M := (yX8_best, cX8_best, 2, (some .int))
theorem m8_best_V : am_mV m8_best 1 8 := ⟨⟨by decide, am_gi 951 (by decide +kernel) rfl, am_gi 9 (by decide +kernel) rfl, by decide +kernel, by decide⟩, by decide, rfl, am_gi 949 (by decide +kernel) rfl, am_gi 950 (by decide +kernel) rfl⟩
def m8_findsBest : am_M := (yX8_findsBest, cX8_findsBest, 6, none)
theorem m8_findsBest_V : am_mV m8_findsBest 0 8 := ⟨⟨by decide, am_gi 955 (by decide +kernel) rfl, am_gi 9 (by decide +kernel) rfl, by decide +kernel, by decide⟩, by decide, rfl, am_gi 954 (by decide +kernel) rfl, am_gs (n := 21) 79 (by decide +kernel)⟩
def m8_laysPlaces : am_M := (yX8_laysPlaces, cX8_laysPlaces, 2, none)
theorem m8_laysPlaces_V : am_mV m8_laysPlaces 0 8 := ⟨⟨by decide, am_gi 959 (by decide +kernel) rfl, am_gi 9 (by decide +kernel) rfl, by decide +kernel, by decide⟩, by decide, rfl, am_gi 958 (by decide +kernel) rfl, am_gs (n := 21) 80 (by decide +kernel)⟩
def m8_isOrder : am_M := (yX8_isOrder, cX8_isOrder, 5, (some .boolean))
theorem m8_isOrder_V : am_mV m8_isOrder 1 8 := ⟨⟨by decide, am_gi 963 (by decide +kernel) rfl, am_gi 9 (by decide +kernel) rfl, by decide +kernel, by decide⟩, by decide, rfl, am_gi 962 (by decide +kernel) rfl, am_gs (n := 21) 81 (by decide +kernel)⟩
def m8_tries : am_M := (yX8_tries, cX8_tries, 9, none)
theorem m8_tries_V : am_mV m8_tries 2 8 := ⟨⟨by decide, am_gi 967 (by decide +kernel) rfl, am_gi 9 (by decide +kernel) rfl, by decide +kernel, by decide⟩, by decide, rfl, am_gi 966 (by decide +kernel) rfl, am_gs (n := 21) 82 (by decide +kernel)⟩
def m8_places : am_M := (yX8_places, cX8_places, 3, (some .int))
theorem m8_places_V : am_mV m8_places 2 8 := ⟨⟨by decide, am_gi 971 (by decide +kernel) rfl, am_gi 9 (by decide +kernel) rfl, by decide +kernel, by decide⟩, by decide, rfl, am_gi 969 (by decide +kernel) rfl, am_gi 970 (by decide +kernel) rfl⟩
def m8_tellPlaces : am_M := (yX8_tellPlaces, cX8_tellPlaces, 10, (some .int))
theorem m8_tellPlaces_V : am_mV m8_tellPlaces 2 8 := ⟨⟨by decide, am_gi 975 (by decide +kernel) rfl, am_gi 9 (by decide +kernel) rfl, by decide +kernel, by decide⟩, by decide, rfl, am_gi 974 (by decide +kernel) rfl, am_gs (n := 21) 83 (by decide +kernel)⟩
def m8_most : am_M := (yX8_most, cX8_most, 8, (some .int))
theorem m8_most_V : am_mV m8_most 0 8 := ⟨⟨by decide, am_gi 979 (by decide +kernel) rfl, am_gi 9 (by decide +kernel) rfl, by decide +kernel, by decide⟩, by decide, rfl, am_gi 977 (by decide +kernel) rfl, am_gi 978 (by decide +kernel) rfl⟩
def m8_reachOf : am_M := (yX8_reachOf, cX8_reachOf, 7, (some .int))
theorem m8_reachOf_V : am_mV m8_reachOf 1 8 := ⟨⟨by decide, am_gi 983 (by decide +kernel) rfl, am_gi 9 (by decide +kernel) rfl, by decide +kernel, by decide⟩, by decide, rfl, am_gi 982 (by decide +kernel) rfl, am_gs (n := 21) 84 (by decide +kernel)⟩
def m8_has : am_M := (yX8_has, cX8_has, 2, (some .boolean))
theorem m8_has_S : am_mS m8_has 2 := ⟨⟨by decide, am_gi 986 (by decide +kernel) rfl, am_gi 9 (by decide +kernel) rfl, by decide +kernel, by decide⟩, am_gi 985 (by decide +kernel) rfl⟩
def m8_sees : am_M := (yX8_sees, cX8_sees, 3, (some .int))
theorem m8_sees_V : am_mV m8_sees 2 8 := ⟨⟨by decide, am_gi 990 (by decide +kernel) rfl, am_gi 9 (by decide +kernel) rfl, by decide +kernel, by decide⟩, by decide, rfl, am_gi 988 (by decide +kernel) rfl, am_gi 989 (by decide +kernel) rfl⟩
def m8_forget : am_M := (yX8_forget, cX8_forget, 2, (some .int))
theorem m8_forget_V : am_mV m8_forget 0 8 := ⟨⟨by decide, am_gi 994 (by decide +kernel) rfl, am_gi 9 (by decide +kernel) rfl, by decide +kernel, by decide⟩, by decide, rfl, am_gi 992 (by decide +kernel) rfl, am_gi 993 (by decide +kernel) rfl⟩
def m8_which : am_M := (yX8_which, cX8_which, 5, (some .int))
theorem m8_which_V : am_mV m8_which 1 8 := ⟨⟨by decide, am_gi 998 (by decide +kernel) rfl, am_gi 9 (by decide +kernel) rfl, by decide +kernel, by decide⟩, by decide, rfl, am_gi 996 (by decide +kernel) rfl, am_gi 997 (by decide +kernel) rfl⟩
def m8_isSeen : am_M := (yX8_isSeen, cX8_isSeen, 6, (some .boolean))
theorem m8_isSeen_V : am_mV m8_isSeen 1 8 := ⟨⟨by decide, am_gi 1002 (by decide +kernel) rfl, am_gi 9 (by decide +kernel) rfl, by decide +kernel, by decide⟩, by decide, rfl, am_gi 1001 (by decide +kernel) rfl, am_gs (n := 21) 85 (by decide +kernel)⟩
def m8_keep : am_M := (yX8_keep, cX8_keep, 3, (some .int))
theorem m8_keep_V : am_mV m8_keep 1 8 := ⟨⟨by decide, am_gi 1006 (by decide +kernel) rfl, am_gi 9 (by decide +kernel) rfl, by decide +kernel, by decide⟩, by decide, rfl, am_gi 1004 (by decide +kernel) rfl, am_gi 1005 (by decide +kernel) rfl⟩
def m8_hanging : am_M := (yX8_hanging, cX8_hanging, 3, (some .int))
theorem m8_hanging_V : am_mV m8_hanging 0 8 := ⟨⟨by decide, am_gi 1010 (by decide +kernel) rfl, am_gi 9 (by decide +kernel) rfl, by decide +kernel, by decide⟩, by decide, rfl, am_gi 1009 (by decide +kernel) rfl, am_gs (n := 21) 86 (by decide +kernel)⟩
def m8_back : am_M := (yX8_back, cX8_back, 3, (some .int))
theorem m8_back_V : am_mV m8_back 1 8 := ⟨⟨by decide, am_gi 1014 (by decide +kernel) rfl, am_gi 9 (by decide +kernel) rfl, by decide +kernel, by decide⟩, by decide, rfl, am_gi 1012 (by decide +kernel) rfl, am_gi 1013 (by decide +kernel) rfl⟩
def m8_count : am_M := (yX8_count, cX8_count, 2, (some .int))
theorem m8_count_V : am_mV m8_count 1 8 := ⟨⟨by decide, am_gi 1018 (by decide +kernel) rfl, am_gi 9 (by decide +kernel) rfl, by decide +kernel, by decide⟩, by decide, rfl, am_gi 1016 (by decide +kernel) rfl, am_gi 1017 (by decide +kernel) rfl⟩
theorem lk7_1 : am_lk RX7 1 (⟨"java/lang/Object", "<init>", "()V"⟩ : MethodName) := Or.inl (am_gi 22 (by decide +kernel) rfl)
theorem lk2_3 : am_lk RX2 3 (⟨"java/lang/Object", "<init>", "()V"⟩ : MethodName) := Or.inl (am_gi 30 (by decide +kernel) rfl)
theorem lk5_3 : am_lk RX5 3 (⟨"java/lang/Object", "<init>", "()V"⟩ : MethodName) := Or.inl (am_gi 36 (by decide +kernel) rfl)
theorem lk6_3 : am_lk RX6 3 (⟨"java/lang/Object", "<init>", "()V"⟩ : MethodName) := Or.inl (am_gi 79 (by decide +kernel) rfl)
theorem lk6_39 : am_lk RX6 39 yX6_makeBare := Or.inl (am_gi 80 (by decide +kernel) rfl)
theorem lk1_3 : am_lk RX1 3 (⟨"java/lang/Object", "<init>", "()V"⟩ : MethodName) := Or.inl (am_gi 168 (by decide +kernel) rfl)
theorem lk3_3 : am_lk RX3 3 (⟨"java/lang/Object", "<init>", "()V"⟩ : MethodName) := Or.inl (am_gi 185 (by decide +kernel) rfl)
theorem lk0_3 : am_lk RX0 3 (⟨"java/lang/Object", "<init>", "()V"⟩ : MethodName) := Or.inl (am_gi 235 (by decide +kernel) rfl)
theorem lk4_3 : am_lk RX4 3 (⟨"java/lang/Object", "<init>", "()V"⟩ : MethodName) := Or.inl (am_gi 245 (by decide +kernel) rfl)
theorem lk5_25 : am_lk RX5 25 yX5_endOfToken := Or.inl (am_gi 315 (by decide +kernel) rfl)
theorem lk5_45 : am_lk RX5 45 yX5_sortAt := Or.inl (am_gi 318 (by decide +kernel) rfl)
theorem lk5_29 : am_lk RX5 29 yX5_kindOf := Or.inl (am_gi 321 (by decide +kernel) rfl)
theorem lk5_49 : am_lk RX5 49 yX5_kindOfFigures := Or.inl (am_gi 324 (by decide +kernel) rfl)
theorem lk5_57 : am_lk RX5 57 yX5_spells := Or.inl (am_gi 328 (by decide +kernel) rfl)
theorem lk5_71 : am_lk RX5 71 yJ0_length_8abf5 := Or.inl (am_gi 331 (by decide +kernel) rfl)
theorem lk5_77 : am_lk RX5 77 yJ0_charAt_5068e := Or.inl (am_gi 341 (by decide +kernel) rfl)
theorem lk5_32 : am_lk RX5 32 yX5_valueOf := Or.inl (am_gi 379 (by decide +kernel) rfl)
theorem lk5_81 : am_lk RX5 81 yJ9_min_7cf53 := Or.inl (am_gi 382 (by decide +kernel) rfl)
theorem lk5_52 : am_lk RX5 52 yX5_kindOfWord := Or.inl (am_gi 385 (by decide +kernel) rfl)
theorem lk5_35 : am_lk RX5 35 yX5_add := Or.inl (am_gi 393 (by decide +kernel) rfl)
theorem lk5_39 : am_lk RX5 39 yJ9_max_7cf53 := Or.inl (am_gi 397 (by decide +kernel) rfl)
theorem lk2_35 : am_lk RX2 35 yX2_readToken := Or.inl (am_gi 401 (by decide +kernel) rfl)
theorem lk2_41 : am_lk RX2 41 yX2_readItem := Or.inl (am_gi 405 (by decide +kernel) rfl)
theorem lk2_68 : am_lk RX2 68 yX2_readWall := Or.inl (am_gi 409 (by decide +kernel) rfl)
theorem lk2_89 : am_lk RX2 89 yX2_readNumber := Or.inl (am_gi 413 (by decide +kernel) rfl)
theorem lk2_74 : am_lk RX2 74 yX2_readPicture := Or.inl (am_gi 417 (by decide +kernel) rfl)
theorem lk2_80 : am_lk RX2 80 yX2_readDoor := Or.inl (am_gi 425 (by decide +kernel) rfl)
theorem lk2_86 : am_lk RX2 86 yX2_readHole := Or.inl (am_gi 433 (by decide +kernel) rfl)
theorem lk2_45 : am_lk RX2 45 yX2_readSemicolon := Or.inl (am_gi 445 (by decide +kernel) rfl)
theorem lk7_78 : am_lk RX7 78 yX7_remember := Or.inl (am_gi 449 (by decide +kernel) rfl)
theorem lk1_22 : am_lk RX1 22 yX1_loseOldest := Or.inl (am_gi 457 (by decide +kernel) rfl)
theorem lk6_61 : am_lk RX6 61 (⟨"java/lang/System", "arraycopy", "(Ljava/lang/Object;ILjava/lang/Object;II)V"⟩ : MethodName) := Or.inl (am_gi 465 (by decide +kernel) rfl)
theorem lk6_71 : am_lk RX6 71 yX6_hasPicture := Or.inl (am_gi 482 (by decide +kernel) rfl)
theorem lk6_85 : am_lk RX6 85 yX6_fits := Or.inl (am_gi 487 (by decide +kernel) rfl)
theorem lk6_89 : am_lk RX6 89 yX6_isApartFromAll := Or.inl (am_gi 491 (by decide +kernel) rfl)
theorem lk6_74 : am_lk RX6 74 yX6_hookX := Or.inl (am_gi 499 (by decide +kernel) rfl)
theorem lk6_78 : am_lk RX6 78 yX6_hookY := Or.inl (am_gi 503 (by decide +kernel) rfl)
theorem lk6_82 : am_lk RX6 82 yX6_findHole := Or.inl (am_gi 507 (by decide +kernel) rfl)
theorem lk6_92 : am_lk RX6 92 yX6_hasHoleFor := Or.inl (am_gi 512 (by decide +kernel) rfl)
theorem lk6_95 : am_lk RX6 95 yX6_addHole := Or.inl (am_gi 513 (by decide +kernel) rfl)
theorem lk6_67 : am_lk RX6 67 yX6_hasHole := Or.inl (am_gi 530 (by decide +kernel) rfl)
theorem lk6_99 : am_lk RX6 99 yX6_momentAt := Or.inl (am_gi 577 (by decide +kernel) rfl)
theorem lk7_168 : am_lk RX7 168 yJ9_abs_0f7a4 := Or.inl (am_gi 581 (by decide +kernel) rfl)
theorem lk3_63 : am_lk RX3 63 yX3_markPlaces := Or.inl (am_gi 592 (by decide +kernel) rfl)
theorem lk3_74 : am_lk RX3 74 yX3_tryAllGaps := Or.inl (am_gi 600 (by decide +kernel) rfl)
theorem lk3_95 : am_lk RX3 95 yX3_tryOrders := Or.inl (am_gi 604 (by decide +kernel) rfl)
theorem lk3_99 : am_lk RX3 99 yJ9_abs_0f7a4 := Or.inl (am_gi 607 (by decide +kernel) rfl)
theorem lk3_104 : am_lk RX3 104 yX3_takeIfBetter := Or.inl (am_gi 608 (by decide +kernel) rfl)
theorem lk3_112 : am_lk RX3 112 (⟨"java/lang/System", "arraycopy", "(Ljava/lang/Object;ILjava/lang/Object;II)V"⟩ : MethodName) := Or.inl (am_gi 612 (by decide +kernel) rfl)
theorem lk3_108 : am_lk RX3 108 yX3_isMarked := Or.inl (am_gi 613 (by decide +kernel) rfl)
theorem lk3_42 : am_lk RX3 42 yX3_pictureAt := Or.inl (am_gi 620 (by decide +kernel) rfl)
theorem lk7_179 : am_lk RX7 179 yX7_countPlaces := Or.inl (am_gi 628 (by decide +kernel) rfl)
theorem lk7_182 : am_lk RX7 182 yX7_leastPlace := Or.inl (am_gi 632 (by decide +kernel) rfl)
theorem lk7_186 : am_lk RX7 186 yX7_calmestPlace := Or.inl (am_gi 636 (by decide +kernel) rfl)
theorem lk0_24 : am_lk RX0 24 yX0_leastEnd := Or.inl (am_gi 649 (by decide +kernel) rfl)
theorem lk0_39 : am_lk RX0 39 yJ9_min_7cf53 := Or.inl (am_gi 657 (by decide +kernel) rfl)
theorem lk0_28 : am_lk RX0 28 yX0_isBetter := Or.inl (am_gi 658 (by decide +kernel) rfl)
theorem lk0_44 : am_lk RX0 44 yJ6_bitCount_0f7a4 := Or.inl (am_gi 661 (by decide +kernel) rfl)
theorem lk0_50 : am_lk RX0 50 yX0_weightOf := Or.inl (am_gi 667 (by decide +kernel) rfl)
theorem lk4_27 : am_lk RX4 27 yX4_matches := Or.inl (am_gi 690 (by decide +kernel) rfl)
theorem lk4_31 : am_lk RX4 31 yX4_measured := Or.inl (am_gi 694 (by decide +kernel) rfl)
theorem lk8_1 : am_lk RX8 1 (⟨"java/lang/Object", "<init>", "()V"⟩ : MethodName) := Or.inl (am_gi 725 (by decide +kernel) rfl)
theorem lk8_53 : am_lk RX8 53 yX8_bares := Or.inl (am_gi 726 (by decide +kernel) rfl)
theorem lk8_67 : am_lk RX8 67 yX8_within := Or.inl (am_gi 797 (by decide +kernel) rfl)
theorem lk8_111 : am_lk RX8 111 yX8_reads := Or.inl (am_gi 808 (by decide +kernel) rfl)
theorem lk8_71 : am_lk RX8 71 yX8_skips := Or.inl (am_gi 812 (by decide +kernel) rfl)
theorem lk8_102 : am_lk RX8 102 yX8_readsItem := Or.inl (am_gi 816 (by decide +kernel) rfl)
theorem lk8_74 : am_lk RX8 74 yX8_isAt := Or.inl (am_gi 820 (by decide +kernel) rfl)
theorem lk8_85 : am_lk RX8 85 yX8_spells := Or.inl (am_gi 824 (by decide +kernel) rfl)
theorem lk8_89 : am_lk RX8 89 yX8_readsWall := Or.inl (am_gi 828 (by decide +kernel) rfl)
theorem lk8_82 : am_lk RX8 82 yX8_puts := Or.inl (am_gi 832 (by decide +kernel) rfl)
theorem lk8_93 : am_lk RX8 93 yX8_readsPicture := Or.inl (am_gi 836 (by decide +kernel) rfl)
theorem lk8_96 : am_lk RX8 96 yX8_readsDoor := Or.inl (am_gi 840 (by decide +kernel) rfl)
theorem lk8_99 : am_lk RX8 99 yX8_readsHole := Or.inl (am_gi 844 (by decide +kernel) rfl)
theorem lk8_105 : am_lk RX8 105 yX8_passesEnd := Or.inl (am_gi 848 (by decide +kernel) rfl)
theorem lk8_115 : am_lk RX8 115 yX8_keeps := Or.inl (am_gi 852 (by decide +kernel) rfl)
theorem lk8_136 : am_lk RX8 136 yX8_isPicture := Or.inl (am_gi 860 (by decide +kernel) rfl)
theorem lk8_122 : am_lk RX8 122 yX8_hangsNow := Or.inl (am_gi 864 (by decide +kernel) rfl)
theorem lk8_139 : am_lk RX8 139 yX8_doesFit := Or.inl (am_gi 868 (by decide +kernel) rfl)
theorem lk8_118 : am_lk RX8 118 yX8_ofPicture := Or.inl (am_gi 872 (by decide +kernel) rfl)
theorem lk8_142 : am_lk RX8 142 yX8_isApart := Or.inl (am_gi 876 (by decide +kernel) rfl)
theorem lk8_145 : am_lk RX8 145 yX8_hasHole := Or.inl (am_gi 880 (by decide +kernel) rfl)
theorem lk8_126 : am_lk RX8 126 yX8_hookX := Or.inl (am_gi 884 (by decide +kernel) rfl)
theorem lk8_129 : am_lk RX8 129 yX8_hookY := Or.inl (am_gi 888 (by decide +kernel) rfl)
theorem lk8_133 : am_lk RX8 133 yX8_holeAt := Or.inl (am_gi 892 (by decide +kernel) rfl)
theorem lk8_148 : am_lk RX8 148 yX8_isHole := Or.inl (am_gi 904 (by decide +kernel) rfl)
theorem lk8_151 : am_lk RX8 151 yX8_hangingAt := Or.inl (am_gi 908 (by decide +kernel) rfl)
theorem lk8_158 : am_lk RX8 158 yX8_momentNow := Or.inl (am_gi 937 (by decide +kernel) rfl)
theorem lk8_155 : am_lk RX8 155 yX8_leanOf := Or.inl (am_gi 941 (by decide +kernel) rfl)
theorem lk8_161 : am_lk RX8 161 yX8_off := Or.inl (am_gi 945 (by decide +kernel) rfl)
theorem lk8_177 : am_lk RX8 177 yX8_findsBest := Or.inl (am_gi 952 (by decide +kernel) rfl)
theorem lk8_167 : am_lk RX8 167 yX8_laysPlaces := Or.inl (am_gi 956 (by decide +kernel) rfl)
theorem lk8_170 : am_lk RX8 170 yX8_isOrder := Or.inl (am_gi 960 (by decide +kernel) rfl)
theorem lk8_173 : am_lk RX8 173 yX8_tries := Or.inl (am_gi 964 (by decide +kernel) rfl)
theorem lk8_180 : am_lk RX8 180 yX8_tellPlaces := Or.inl (am_gi 972 (by decide +kernel) rfl)
theorem lk8_186 : am_lk RX8 186 yX8_reachOf := Or.inl (am_gi 980 (by decide +kernel) rfl)
theorem lk8_183 : am_lk RX8 183 yX8_has := Or.inl (am_gi 984 (by decide +kernel) rfl)
theorem lk8_192 : am_lk RX8 192 yX8_isSeen := Or.inl (am_gi 999 (by decide +kernel) rfl)
theorem lk8_195 : am_lk RX8 195 yX8_hanging := Or.inl (am_gi 1007 (by decide +kernel) rfl)
theorem lk7_19 : am_lk RX7 19 yX2_init := Or.inr ⟨"HungPictures", am_nm1 0 rfl⟩
theorem lk2_11 : am_lk RX2 11 yX5_init := Or.inr ⟨"HungPictures", am_nm1 1 rfl⟩
theorem lk7_26 : am_lk RX7 26 yX6_init := Or.inr ⟨"HungPictures", am_nm1 2 rfl⟩
theorem lk7_36 : am_lk RX7 36 yX1_init := Or.inr ⟨"HungPictures", am_nm1 3 rfl⟩
theorem lk1_17 : am_lk RX1 17 yX6_init := Or.inr ⟨"HungPictures", am_nm1 4 rfl⟩
theorem lk7_43 : am_lk RX7 43 yX3_init := Or.inr ⟨"HungPictures", am_nm1 5 rfl⟩
theorem lk7_54 : am_lk RX7 54 yX0_init := Or.inr ⟨"HungPictures", am_nm1 6 rfl⟩
theorem lk7_61 : am_lk RX7 61 yX4_init := Or.inr ⟨"HungPictures", am_nm1 7 rfl⟩
theorem lk7_74 : am_lk RX7 74 yX2_readInto := Or.inr ⟨"HungPictures", am_nm1 8 rfl⟩
theorem lk2_18 : am_lk RX2 18 yX5_cut := Or.inr ⟨"HungPictures", am_nm1 9 rfl⟩
theorem lk2_30 : am_lk RX2 30 yX6_makeBare := Or.inr ⟨"HungPictures", am_nm1 10 rfl⟩
theorem lk2_102 : am_lk RX2 102 yX6_addPicture := Or.inr ⟨"HungPictures", am_nm1 11 rfl⟩
theorem lk2_106 : am_lk RX2 106 yX6_addDoor := Or.inr ⟨"HungPictures", am_nm1 12 rfl⟩
theorem lk2_110 : am_lk RX2 110 yX6_findHole := Or.inr ⟨"HungPictures", am_nm1 13 rfl⟩
theorem lk2_114 : am_lk RX2 114 yX6_addHole := Or.inr ⟨"HungPictures", am_nm1 14 rfl⟩
theorem lk7_220 : am_lk RX7 220 yX1_add := Or.inr ⟨"HungPictures", am_nm1 15 rfl⟩
theorem lk1_25 : am_lk RX1 25 yX6_copyFrom := Or.inr ⟨"HungPictures", am_nm1 16 rfl⟩
theorem lk7_81 : am_lk RX7 81 yX6_copyFrom := Or.inr ⟨"HungPictures", am_nm1 17 rfl⟩
theorem lk7_85 : am_lk RX7 85 yX6_hasPicture := Or.inr ⟨"HungPictures", am_nm1 18 rfl⟩
theorem lk7_89 : am_lk RX7 89 yX6_isUp := Or.inr ⟨"HungPictures", am_nm1 19 rfl⟩
theorem lk7_92 : am_lk RX7 92 yX6_isFreeFor := Or.inr ⟨"HungPictures", am_nm1 20 rfl⟩
theorem lk7_96 : am_lk RX7 96 yX6_hasHoleFor := Or.inr ⟨"HungPictures", am_nm1 21 rfl⟩
theorem lk7_102 : am_lk RX7 102 yX6_putUp := Or.inr ⟨"HungPictures", am_nm1 22 rfl⟩
theorem lk7_109 : am_lk RX7 109 yX6_hasHole := Or.inr ⟨"HungPictures", am_nm1 23 rfl⟩
theorem lk7_112 : am_lk RX7 112 yX6_findPictureOn := Or.inr ⟨"HungPictures", am_nm1 24 rfl⟩
theorem lk7_116 : am_lk RX7 116 yX6_removeHole := Or.inr ⟨"HungPictures", am_nm1 25 rfl⟩
theorem lk7_123 : am_lk RX7 123 yX6_takeAllDown := Or.inr ⟨"HungPictures", am_nm1 26 rfl⟩
theorem lk7_126 : am_lk RX7 126 yX1_giveLatestTo := Or.inr ⟨"HungPictures", am_nm1 27 rfl⟩
theorem lk7_146 : am_lk RX7 146 yX6_hookY := Or.inr ⟨"HungPictures", am_nm1 28 rfl⟩
theorem lk7_155 : am_lk RX7 155 yX6_hasDoor := Or.inr ⟨"HungPictures", am_nm1 29 rfl⟩
theorem lk7_164 : am_lk RX7 164 yX6_momentNow := Or.inr ⟨"HungPictures", am_nm1 30 rfl⟩
theorem lk7_173 : am_lk RX7 173 yX3_search := Or.inr ⟨"HungPictures", am_nm1 31 rfl⟩
theorem lk3_77 : am_lk RX3 77 yX6_hasPicture := Or.inr ⟨"HungPictures", am_nm1 32 rfl⟩
theorem lk3_81 : am_lk RX3 81 yX6_fits := Or.inr ⟨"HungPictures", am_nm1 33 rfl⟩
theorem lk3_85 : am_lk RX3 85 yX6_hasHoleFor := Or.inr ⟨"HungPictures", am_nm1 34 rfl⟩
theorem lk3_70 : am_lk RX3 70 yX6_momentAt := Or.inr ⟨"HungPictures", am_nm1 35 rfl⟩
theorem lk7_176 : am_lk RX7 176 yX3_answer := Or.inr ⟨"HungPictures", am_nm1 36 rfl⟩
theorem lk7_222 : am_lk RX7 222 yX6_momentAt := Or.inr ⟨"HungPictures", am_nm1 37 rfl⟩
theorem lk7_189 : am_lk RX7 189 yX0_largestSet := Or.inr ⟨"HungPictures", am_nm1 38 rfl⟩
theorem lk0_32 : am_lk RX0 32 yX6_firstFit := Or.inr ⟨"HungPictures", am_nm1 39 rfl⟩
theorem lk7_196 : am_lk RX7 196 yX4_add := Or.inr ⟨"HungPictures", am_nm1 40 rfl⟩
theorem lk7_199 : am_lk RX7 199 yX4_countMatches := Or.inr ⟨"HungPictures", am_nm1 41 rfl⟩
theorem lk4_35 : am_lk RX4 35 yX6_hasPicture := Or.inr ⟨"HungPictures", am_nm1 42 rfl⟩
theorem lk4_49 : am_lk RX4 49 yX6_hookY := Or.inr ⟨"HungPictures", am_nm1 43 rfl⟩
theorem lk7_202 : am_lk RX7 202 yX4_leastMatch := Or.inr ⟨"HungPictures", am_nm1 44 rfl⟩
theorem lk7_205 : am_lk RX7 205 yX6_countUp := Or.inr ⟨"HungPictures", am_nm1 45 rfl⟩
theorem nw7_17 : am_nw RX7 17 2 := ⟨by decide, am_gi 25 (by decide +kernel) rfl, am_gi 26 (by decide +kernel) rfl, am_gi 2 (by decide +kernel) rfl⟩
theorem nw2_9 : am_nw RX2 9 5 := ⟨by decide, am_gi 31 (by decide +kernel) rfl, am_gi 32 (by decide +kernel) rfl, am_gi 3 (by decide +kernel) rfl⟩
theorem nw7_24 : am_nw RX7 24 6 := ⟨by decide, am_gi 74 (by decide +kernel) rfl, am_gi 75 (by decide +kernel) rfl, am_gi 4 (by decide +kernel) rfl⟩
theorem nw7_34 : am_nw RX7 34 1 := ⟨by decide, am_gi 163 (by decide +kernel) rfl, am_gi 164 (by decide +kernel) rfl, am_gi 5 (by decide +kernel) rfl⟩
theorem nw1_9 : am_nw RX1 9 6 := ⟨by decide, am_gi 169 (by decide +kernel) rfl, am_gi 75 (by decide +kernel) rfl, am_gi 4 (by decide +kernel) rfl⟩
theorem nw7_41 : am_nw RX7 41 3 := ⟨by decide, am_gi 180 (by decide +kernel) rfl, am_gi 181 (by decide +kernel) rfl, am_gi 6 (by decide +kernel) rfl⟩
theorem nw7_52 : am_nw RX7 52 0 := ⟨by decide, am_gi 230 (by decide +kernel) rfl, am_gi 231 (by decide +kernel) rfl, am_gi 7 (by decide +kernel) rfl⟩
theorem nw7_59 : am_nw RX7 59 4 := ⟨by decide, am_gi 240 (by decide +kernel) rfl, am_gi 241 (by decide +kernel) rfl, am_gi 8 (by decide +kernel) rfl⟩
theorem kc7_133 : Cond.constant RX7 133 (-1000000) ∈ am_g := am_gi 555 (by decide +kernel) rfl
theorem kcJ6_265 : Cond.constant RJ6 265 (1431655765) ∈ am_g := am_gi 664 (by decide +kernel) rfl
theorem kcJ6_266 : Cond.constant RJ6 266 (858993459) ∈ am_g := am_gi 665 (by decide +kernel) rfl
theorem kcJ6_267 : Cond.constant RJ6 267 (252645135) ∈ am_g := am_gi 666 (by decide +kernel) rfl
theorem kc4_39 : Cond.constant RX4 39 (-1000000) ∈ am_g := am_gi 698 (by decide +kernel) rfl
theorem kc8_154 : Cond.constant RX8 154 (-1000000) ∈ am_g := am_gi 924 (by decide +kernel) rfl
theorem jm_abs : Cond.static Lib.Math.abs.name ∈ am_g ∧ Cond.initialized "java/lang/Math" ∈ am_g ∧ Cond.code Lib.Math.abs.name Lib.Math.abs.code 1 (some .int) ∈ am_g := ⟨am_gi 582 (by decide +kernel) rfl, am_gi 14 (by decide +kernel) rfl, am_gi 583 (by decide +kernel) rfl⟩
theorem jm_max : Cond.static Lib.Math.max.name ∈ am_g ∧ Cond.initialized "java/lang/Math" ∈ am_g ∧ Cond.code Lib.Math.max.name Lib.Math.max.code 2 (some .int) ∈ am_g := ⟨am_gi 398 (by decide +kernel) rfl, am_gi 14 (by decide +kernel) rfl, am_gi 399 (by decide +kernel) rfl⟩
theorem jm_min : Cond.static Lib.Math.min.name ∈ am_g ∧ Cond.initialized "java/lang/Math" ∈ am_g ∧ Cond.code Lib.Math.min.name Lib.Math.min.code 2 (some .int) ∈ am_g := ⟨am_gi 383 (by decide +kernel) rfl, am_gi 14 (by decide +kernel) rfl, am_gi 384 (by decide +kernel) rfl⟩
theorem jm_copy : Cond.native arraycopyName ∈ am_g ∧ Cond.static arraycopyName ∈ am_g ∧ Cond.initialized "java/lang/System" ∈ am_g := ⟨am_gi 467 (by decide +kernel) rfl, am_gi 466 (by decide +kernel) rfl, am_gi 15 (by decide +kernel) rfl⟩
theorem jm_obj : Cond.instanceMethod objectInit ∈ am_g ∧ Cond.code objectInit ⟨#[0xb1]⟩ 1 none ∈ am_g := ⟨am_gi 23 (by decide +kernel) rfl, am_gi 24 (by decide +kernel) rfl⟩
theorem jm_aint : Cond.arrayClass .int ∈ am_g := am_gi 54 (by decide +kernel) rfl
theorem jm_along : Cond.arrayClass .long ∈ am_g := am_gi 229 (by decide +kernel) rfl
theorem jm_aboolean : Cond.arrayClass .boolean ∈ am_g := am_gi 294 (by decide +kernel) rfl
end
section
/-! The machine of this claim, seen by cell numbers: a cell i lies at z + i (the first cell that the law makes is 0); its kind, length, ints, longs and references are functions of its number. AW: from this pc the method comes to its return with Q. Ct: a method's contract. A row an instruction. -/
abbrev am_G : Type := Nat × (Nat → Nat) × (Nat → Nat)
abbrev am_I : Type := Nat → Nat → Int32
abbrev am_J : Type := Nat → Nat → Int64
abbrev am_O : Type := Nat → Nat → Option Nat
abbrev am_Po : Type := Option Value → am_G → am_I → am_J → am_O → Prop
theorem am_lt9 {P : Nat → Prop} (h0 : P 0) (h1 : P 1) (h2 : P 2) (h3 : P 3) (h4 : P 4) (h5 : P 5) (h6 : P 6) (h7 : P 7) (h8 : P 8) : ∀ c, c < 9 → P c
  | 0, _ => h0
  | 1, _ => h1
  | 2, _ => h2
  | 3, _ => h3
  | 4, _ => h4
  | 5, _ => h5
  | 6, _ => h6
  | 7, _ => h7
  | 8, _ => h8
  | c + 9, h => absurd h (by omega)
theorem am_cl : ∀ c, c < 9 → vwCl[c]? = some (am_C c, am_T c, am_N c) := am_lt9 rfl rfl rfl rfl rfl rfl rfl rfl rfl
theorem am_in : ∀ c, c < 9 → ∀ w ∈ u_ws (am_C c) (am_T c) (am_N c), w ∈ am_g := am_lt9 inl0 inl1 inl2 inl3 inl4 inl5 inl6 inl7 inl8
theorem am_tyok : ∀ c, c < 9 → ∀ k, k < am_N c → parseFieldDescriptor (am_T c k).2.2.1 = some (am_ty c k) := am_lt9 tyX0_ok tyX1_ok tyX2_ok tyX3_ok tyX4_ok tyX5_ok tyX6_ok tyX7_ok tyX8_ok
theorem am_nm : ∀ c, c < 9 → ∀ a, a < am_N c → ∀ b, b < am_N c → a ≠ b → (am_T c a).2.1 ≠ (am_T c b).2.1 := am_lt9 nmX0 nmX1 nmX2 nmX3 nmX4 nmX5 nmX6 nmX7 nmX8
/-- where cell i lies; from 1000 on: the String constants -/
def am_as (z : Nat) (sk : Nat → Nat) (i : Nat) : Nat := if i < 1000 then z + i else sk (i - 1000)
theorem am_as_lt {z : Nat} {sk : Nat → Nat} {i : Nat} (h : i < 1000) : am_as z sk i = z + i := if_pos h
def am_cv (f : Nat → Nat) (v : Value) : Value := match v with
  | .ref i => .ref (f i)
  | v => v
def am_fs (f : Nat → Nat) (c : Nat) (I : Nat → Int32) (O : Nat → Option Nat) : List Value := (List.range (am_N c)).map (fun k => if am_rf c k = true then va_rf ((O k).map f) else .int (I k))
def am_ce (f : Nat → Nat) (cy : Nat → ClassId) (g : am_G) (M : am_I) (V : am_J) (R : am_O) (i : Nat) : va_E := match g.2.1 i with
  | 0 => .inl (cy 0, g.2.2 i, .inl (M i))
  | 1 => .inl (cy 1, g.2.2 i, .inr (.inl (V i)))
  | 2 => .inl (cy 2, g.2.2 i, .inl (M i))
  | 3 => .inl (cy 3, g.2.2 i, .inr (.inr (.inr (.inr (fun k => (R i k).map f)))))
  | c + 4 => .inr (c, am_fs f c (M i) (R i))
def am_ws (z : Nat) (f : Nat → Nat) (cy : Nat → ClassId) (g : am_G) (M : am_I) (V : am_J) (R : am_O) : va_W := (List.range g.1).map (fun i => (z + i, am_ce f cy g M V R i))
abbrev am_tys (cy : Nat → ClassId) : List (ClassId × FieldType) := [(cy 0, .int), (cy 1, .long), (cy 2, .boolean), (cy 3, .object RX6)]
abbrev am_A (z : Nat) : Nat → Prop := fun q => z ≤ q
def am_R (z : Nat) (sk : Nat → Nat) (D : va_G) (cy : Nat → ClassId) (g : am_G) (M : am_I) (V : am_J) (R : am_O) (H : Heap) : Prop := g.1 ≤ 1000 ∧ va_P D vwCl (am_ws z (am_as z sk) cy g M V R) H
theorem am_get {z : Nat} {f : Nat → Nat} {cy : Nat → ClassId} {g : am_G} {M : am_I} {V : am_J} {R : am_O} {i : Nat} (h : i < g.1) : (am_ws z f cy g M V R)[i]? = some (z + i, am_ce f cy g M V R i) := by
  simp [am_ws, h]
theorem am_get_inv {z : Nat} {f : Nat → Nat} {cy : Nat → ClassId} {g : am_G} {M : am_I} {V : am_J} {R : am_O} {i : Nat} {q : Nat × va_E} (h : (am_ws z f cy g M V R)[i]? = some q) : i < g.1 ∧ q = (z + i, am_ce f cy g M V R i) := by
  have hl : i < (am_ws z f cy g M V R).length := (List.getElem?_eq_some_iff.mp h).1
  have hl2 : i < g.1 := by simpa [am_ws] using hl
  rw [am_get hl2] at h
  exact ⟨hl2, (Option.some.inj h).symm⟩
theorem am_D {z : Nat} {f : Nat → Nat} {cy : Nat → ClassId} {g : am_G} {M : am_I} {V : am_J} {R : am_O} : va_D (am_A z) (am_ws z f cy g M V R) := by
  refine ⟨fun i j x y hx hy hxy => ?_, fun k q hk => ?_⟩
  · obtain ⟨-, rfl⟩ := am_get_inv hx
    obtain ⟨-, rfl⟩ := am_get_inv hy
    have h : z + i = z + j := hxy
    omega
  · obtain ⟨-, rfl⟩ := am_get_inv hk
    exact Nat.le_add_right z k
theorem am_set {z : Nat} {f : Nat → Nat} {cy : Nat → ClassId} {g : am_G} {M M' : am_I} {V V' : am_J} {R R' : am_O} {i : Nat} {e : va_E} (hi : i < g.1) (he : am_ce f cy g M' V' R' i = e) (ho : ∀ j, j ≠ i → am_ce f cy g M' V' R' j = am_ce f cy g M V R j) : (am_ws z f cy g M V R).set i (z + i, e) = am_ws z f cy g M' V' R' := by
  apply List.ext_getElem?
  intro j
  have hl : i < (am_ws z f cy g M V R).length := by simpa [am_ws] using hi
  by_cases hj : j = i
  · subst hj
    rw [List.getElem?_set_self hl, am_get hi, he]
  · rw [List.getElem?_set_ne (Ne.symm hj)]
    simp only [am_ws, List.getElem?_map]
    by_cases hk : j < g.1
    · rw [List.getElem?_range hk]
      simp only [Option.map_some, ho j hj]
    · rw [List.getElem?_eq_none (by simpa using hk)]
      rfl
/-- a value put at a place of a cell -/
def am_up {α : Type} (M : Nat → Nat → α) (r k : Nat) (v : α) : Nat → Nat → α := fun i j => if i = r then (if j = k then v else M i j) else M i j
theorem am_up_ne {α : Type} {M : Nat → Nat → α} {r k : Nat} {v : α} {i : Nat} (h : i ≠ r) : am_up M r k v i = M i := by
  funext j
  simp [am_up, h]
theorem am_up_self {α : Type} {M : Nat → Nat → α} {r k : Nat} {v : α} : am_up M r k v r = fun j => if j = k then v else M r j := by
  funext j
  simp [am_up]
/-- a cell's row put whole -/
def am_row {α : Type} (M : Nat → Nat → α) (r : Nat) (f : Nat → α) : Nat → Nat → α := fun i => if i = r then f else M i
theorem am_ceM {f : Nat → Nat} {cy : Nat → ClassId} {g : am_G} {M M' : am_I} {V : am_J} {R : am_O} {j : Nat} (h : M' j = M j) : am_ce f cy g M' V R j = am_ce f cy g M V R j := by
  simp [am_ce, h]
theorem am_ceV {f : Nat → Nat} {cy : Nat → ClassId} {g : am_G} {M : am_I} {V V' : am_J} {R : am_O} {j : Nat} (h : V' j = V j) : am_ce f cy g M V' R j = am_ce f cy g M V R j := by
  simp [am_ce, h]
theorem am_ceR {f : Nat → Nat} {cy : Nat → ClassId} {g : am_G} {M : am_I} {V : am_J} {R R' : am_O} {j : Nat} (h : R' j = R j) : am_ce f cy g M V R' j = am_ce f cy g M V R j := by
  simp [am_ce, h]
/-- an object of class c at cell r; an array of kind t and length n -/
abbrev am_ob (g : am_G) (r c : Nat) : Prop := r < g.1 ∧ g.2.1 r = c + 4
abbrev am_ar (g : am_G) (r t n : Nat) : Prop := r < g.1 ∧ g.2.1 r = t ∧ g.2.2 r = n
theorem am_ce_ob {f : Nat → Nat} {cy : Nat → ClassId} {g : am_G} {M : am_I} {V : am_J} {R : am_O} {r c : Nat} (h : g.2.1 r = c + 4) : am_ce f cy g M V R r = .inr (c, am_fs f c (M r) (R r)) := by
  unfold am_ce; rw [h]
theorem am_ce_0 {f : Nat → Nat} {cy : Nat → ClassId} {g : am_G} {M : am_I} {V : am_J} {R : am_O} {r : Nat} (h : g.2.1 r = 0) : am_ce f cy g M V R r = .inl (cy 0, g.2.2 r, .inl (M r)) := by
  unfold am_ce; rw [h]
theorem am_ce_1 {f : Nat → Nat} {cy : Nat → ClassId} {g : am_G} {M : am_I} {V : am_J} {R : am_O} {r : Nat} (h : g.2.1 r = 1) : am_ce f cy g M V R r = .inl (cy 1, g.2.2 r, .inr (.inl (V r))) := by
  unfold am_ce; rw [h]
theorem am_ce_2 {f : Nat → Nat} {cy : Nat → ClassId} {g : am_G} {M : am_I} {V : am_J} {R : am_O} {r : Nat} (h : g.2.1 r = 2) : am_ce f cy g M V R r = .inl (cy 2, g.2.2 r, .inl (M r)) := by
  unfold am_ce; rw [h]
theorem am_ce_3 {f : Nat → Nat} {cy : Nat → ClassId} {g : am_G} {M : am_I} {V : am_J} {R : am_O} {r : Nat} (h : g.2.1 r = 3) : am_ce f cy g M V R r = .inl (cy 3, g.2.2 r, .inr (.inr (.inr (.inr (fun k => (R r k).map f))))) := by
  unfold am_ce; rw [h]
theorem am_fs_get {f : Nat → Nat} {c k : Nat} {I : Nat → Int32} {O : Nat → Option Nat} (h : k < am_N c) : (am_fs f c I O)[k]? = some (if am_rf c k = true then va_rf ((O k).map f) else .int (I k)) := by
  simp [am_fs, h]
theorem am_fs_len {f : Nat → Nat} {c : Nat} {I : Nat → Int32} {O : Nat → Option Nat} : (am_fs f c I O).length = am_N c := by simp [am_fs]
theorem am_fs_set {f : Nat → Nat} {c k : Nat} {I I' : Nat → Int32} {O O' : Nat → Option Nat} {v : Value} (hk : k < am_N c) (hv : (if am_rf c k = true then va_rf ((O' k).map f) else .int (I' k)) = v) (hI : ∀ j, j ≠ k → I' j = I j) (hO : ∀ j, j ≠ k → O' j = O j) : (am_fs f c I O).set k v = am_fs f c I' O' := by
  apply List.ext_getElem?
  intro j
  have hl : k < (am_fs f c I O).length := by rw [am_fs_len]; exact hk
  by_cases hj : j = k
  · subst hj
    rw [List.getElem?_set_self hl, am_fs_get hk, hv]
  · rw [List.getElem?_set_ne (Ne.symm hj)]
    by_cases hn : j < am_N c
    · rw [am_fs_get hn, am_fs_get hn, hI j hj, hO j hj]
    · rw [List.getElem?_eq_none (by rw [am_fs_len]; omega), List.getElem?_eq_none (by rw [am_fs_len]; omega)]
/-- the String constants of Tokens: length, bytes, place in its pool, text -/
def am_sl : List Nat := [1, 4, 3, 4, 4, 1]
def am_sb : List (List Int32) := [[48], [119, 97, 108, 108], [112, 105, 99], [100, 111, 111, 114], [104, 111, 108, 101], [59]]
def am_sx : List Nat := [61, 63, 65, 67, 69, 55]
def am_st : List String := ["0", "wall", "pic", "door", "hole", ";"]
/-- what lies outside the world and is read: String constants, two statics of the JDK -/
def am_X (z : Nat) (sk : Nat → Nat) (U : State) (H : Heap) : Prop := (∃ adV : Nat → Nat, vk_S 6 am_sl am_sb sk adV (am_A z) U H) ∧ (∀ i : Nat, i < 6 → vk_R RX5 (am_sx.getD i 0) (am_st.getD i "") (sk i) U) ∧ va_Z "java/lang/String" "COMPACT_STRINGS" "Z" (.int 1) (am_A z) U H ∧ va_Zq "jdk/internal/util/Preconditions" "SIOOBE_FORMATTER" "Ljava/util/function/BiFunction;" (am_A z) U H
theorem am_X.warm {z : Nat} {sk : Nat → Nat} {s U : State} {H : Heap} (hW : s.WarmedH U.vm) (hq : ∀ a : Nat, a < s.heap.size → ¬ am_A z a → H[a]? = s.heap[a]?) (h : am_X z sk s s.heap) : am_X z sk U H := by
  obtain ⟨⟨adV, h1⟩, h2, h3, h4⟩ := h
  exact ⟨⟨adV, (h1.moved hW.alike).kept hq⟩, fun i hi => (h2 i hi).warm hW, (h3.moved hW.alike).kept hq, (h4.moved hW.alike).kept hq⟩
theorem am_X.same {z : Nat} {sk : Nat → Nat} {u U : State} {H : Heap} (hv : U.vm = u.vm) (h : am_X z sk u H) : am_X z sk U H := by
  obtain ⟨⟨adV, h1⟩, h2, h3, h4⟩ := h
  have ha : u.vm.Alike U.vm := by rw [hv]; exact Vm.Alike.refl u.vm
  exact ⟨⟨adV, h1.moved ha⟩, fun i hi => (h2 i hi).same hv, h3.moved ha, h4.moved ha⟩
def am_U (z : Nat) (sk : Nat → Nat) (D : va_G) (cy : Nat → ClassId) (U : State) : Prop := va_K D vwCl (am_tys cy) U ∧ (∀ w ∈ am_NW, va_Nw w U) ∧ am_X z sk U U.heap ∧ va_AO RX6 U
theorem am_U.calling {z : Nat} {sk : Nat → Nat} {D : va_G} {cy : Nat → ClassId} {U : State} {gf : JFrame} {mk : MethodId} {a : Array Value} (h : am_U z sk D cy U) : am_U z sk D cy (U.calling gf mk a) :=
  ⟨va_K.moved (u := U) (U := U.calling gf mk a) (Vm.Alike.refl U.vm) h.1, fun w hw => va_Nw.same (am_NW_on w hw) (u := U) (U := U.calling gf mk a) rfl (h.2.1 w hw), am_X.same (u := U) (U := U.calling gf mk a) rfl h.2.2.1, va_AO.moved (u := U) (U := U.calling gf mk a) (Vm.Alike.refl U.vm) h.2.2.2⟩
theorem am_U.warm {z : Nat} {sk : Nat → Nat} {D : va_G} {cy : Nat → ClassId} {s U : State} {locs : List Loc} (hW : s.WarmedH U.vm) (hS : va_S (am_A z) s.heap U.heap locs) (h : am_U z sk D cy s) : am_U z sk D cy U :=
  ⟨va_K.moved hW.alike h.1, fun w hw => am_NW_warm w hw hW (h.2.1 w hw), am_X.warm hW hS.2.1 h.2.2.1, va_AO.moved hW.alike h.2.2.2⟩
/-- the locals -/
def am_lo (f : Nat → Nat) (nL : Nat) (ls : List (Option Value)) (lo : Array Slot) : Prop := lo.size = nL ∧ lv_wf lo ∧ ∀ (n : Nat) (v : Value), ls[n]? = some (some v) → lo[n]? = some (.val (am_cv f v))
def am_c1 (ls : List (Option Value)) : Bool := ls.all (fun o => match o with
  | some (.long _) => false
  | some (.double _) => false
  | _ => true)
def am_ll (f : Nat → Nat) (ls : List (Option Value)) : List (Nat × Value) := (List.range ls.length).filterMap (fun n => match ls[n]? with
  | some (some v) => some (n, am_cv f v)
  | _ => none)
theorem am_ll_mem {f : Nat → Nat} {ls : List (Option Value)} {n : Nat} {v : Value} (h : ls[n]? = some (some v)) : (n, am_cv f v) ∈ am_ll f ls := by
  refine List.mem_filterMap.mpr ⟨n, List.mem_range.mpr (List.getElem?_eq_some_iff.mp h).1, ?_⟩
  rw [h]
theorem am_lo.has {f : Nat → Nat} {nL : Nat} {ls : List (Option Value)} {lo : Array Slot} (h : am_lo f nL ls lo) : lv_has lo nL (am_ll f ls) := by
  refine ⟨h.1, h.2.1, fun q hq => ?_⟩
  obtain ⟨n, -, hn⟩ := List.mem_filterMap.mp hq
  cases hv : ls[n]? with
  | none => rw [hv] at hn; cases hn
  | some o =>
    cases o with
    | none => rw [hv] at hn; cases hn
    | some v =>
      rw [hv] at hn
      have e : (n, am_cv f v) = q := Option.some.inj hn
      rw [← e]
      exact h.2.2 n v hv
theorem am_cv_cat (f : Nat → Nat) (v : Value) : (am_cv f v).category = v.category := by cases v <;> rfl
theorem am_lo.set {f : Nat → Nat} {nL i : Nat} {ls : List (Option Value)} {lo : Array Slot} {x : Value} (hc : am_c1 ls = true) (hi : i < ls.length) (h : lv_has lo nL ((i, am_cv f x) :: (am_ll f ls).filter (fun q => !(q.1 == i) && !(q.1 + 1 == i && q.2.category == 2)))) : am_lo f nL (ls.set i (some x)) lo := by
  refine ⟨h.1, h.2.1, fun n v hn => ?_⟩
  by_cases hni : n = i
  · subst hni
    rw [List.getElem?_set_self hi] at hn
    cases hn
    exact h.2.2 (n, am_cv f x) List.mem_cons_self
  · rw [List.getElem?_set_ne (Ne.symm hni)] at hn
    refine h.2.2 (n, am_cv f v) (List.mem_cons_of_mem _ (List.mem_filter.mpr ⟨am_ll_mem hn, ?_⟩))
    have hc1 := List.all_eq_true.mp hc (some v) (List.mem_of_getElem? hn)
    have hcat : v.category ≠ 2 := by
      cases v <;> simp_all [Value.category]
    simp [hni, am_cv_cat, hcat]
/-- what a method stands on -/
def am_S (μ : am_M) (d : Nat) (z : Nat) (sk : Nat → Nat) (D : va_G) (cy : Nat → ClassId) (p : Program) (Rm : Room) (s : State) (m : MethodId) (args : Array Value) (meth : Method) (c : Code) : Prop :=
  p.tables.exec = Jvm.exec ∧ c.code = μ.2.1 ∧ meth.sig.returnType = μ.2.2.2 ∧ c.maxLocals = μ.2.2.1 ∧ s.vm.findClass μ.1.cls = some m.cls ∧ (∀ w ∈ am_g, w.before args s = true) ∧ meth.locks = false ∧ meth.name = μ.1.name ∧ d ≤ Rm.frames ∧ 64 * d ≤ Rm.locals ∧ am_U z sk D cy s
def am_Q (z : Nat) (sk : Nat → Nat) (D : va_G) (cy : Nat → ClassId) (n1 : Nat) (Q : am_Po) : Array Value → State → Outcome → State → Prop := fun _ st oc t =>
  (∃ (v : Option Value) (g : am_G) (M : am_I) (V : am_J) (R : am_O), oc = .returned (v.map (am_cv (am_as z sk))) ∧ g.1 = n1 ∧ Q v g M V R ∧ am_R z sk D cy g M V R t.heap) ∧ va_F (am_A z) st t
def AW (μ : am_M) (d b1 b2 : Nat) (g : am_G) (pc : Nat) (ls : List (Option Value)) (st : List Value) (M : am_I) (V : am_J) (R : am_O) (Q : am_Po) : Prop :=
  ∀ (p : Program) (l : Launch) (e : Env) (Rm : Room) (s : State) (m : MethodId) (args : Array Value) (below : List Frame) (meth : Method) (c : Code) (H : Heap) (locs : List Loc) (cells slots mc ms n0 z : Nat) (sk : Nat → Nat) (D : va_G) (cy : Nat → ClassId) (lo : Array Slot),
    am_S μ d z sk D cy p Rm s m args meth c → (cells + b1 = mc ∧ slots + b2 ≤ ms) → (mc ≤ Rm.cells ∧ ms ≤ Rm.slots) → (s.heap.size = z + n0 ∧ cells + n0 = g.1) → am_R z sk D cy g M V R H → va_S (am_A z) s.heap H locs → am_lo (am_as z sk) μ.2.2.1 ls lo →
    W p l e Rm s m args below meth c H locs cells slots (MQ below (am_Q z sk D cy (n0 + mc) Q) args s mc ms (am_A z)) (F0 m pc lo (st.map (am_cv (am_as z sk))))
def am_P (z : Nat) (sk : Nat → Nat) (D : va_G) (cy : Nat → ClassId) (av : List Value) (g : am_G) (M : am_I) (V : am_J) (R : am_O) : Array Value → State → Prop := fun v U => v = (av.map (am_cv (am_as z sk))).toArray ∧ am_U z sk D cy U ∧ U.heap.size = z + g.1 ∧ am_R z sk D cy g M V R U.heap
def am_w (μ : am_M) : List Cond := Cond.code μ.1 μ.2.1 μ.2.2.1 μ.2.2.2 :: am_g
abbrev am_rm (d mc ms : Nat) : Room := { frames := d, cells := mc, slots := ms, locals := 64 * d }
def Ct (μ : am_M) (d mc ms : Nat) (av : List Value) (g : am_G) (M : am_I) (V : am_J) (R : am_O) (Q : am_Po) : Prop :=
  ∀ (l : Launch) (z : Nat) (sk : Nat → Nat) (D : va_G) (cy : Nat → ClassId), Met l μ.1 (am_w μ) (am_rm d mc ms) (am_P z sk D cy av g M V R) (am_Q z sk D cy (g.1 + mc) Q) mc ms (am_A z)

section AR
variable {μ : am_M} {d b1 b2 : Nat} {g : am_G} {pc : Nat} {ls : List (Option Value)} {st : List Value} {M : am_I} {V : am_J} {R : am_O} {Q : am_Po}

theorem aw_iconst (q : Nat) {n : Int} {v : Int32} (hd : decode μ.2.1 pc = .ok (.iconst n, 1)) (hp : pc + 1 = q) (hv : Int32.ofInt n = v) (k : AW μ d b1 b2 g q ls (.int v :: st) M V R Q) : AW μ d b1 b2 g pc ls st M V R Q := by
  subst hp
  intro p l e Rm s m args below meth c H locs cells slots mc ms n0 z sk D cy lo S h1 h2 h3 hR hS hL
  exact lv_iconst S.1 S.2.1 hd hv (k p l e Rm s m args below meth c H locs cells slots mc ms n0 z sk D cy lo S h1 h2 h3 hR hS hL)
theorem aw_bipush (q : Nat) {n : Int} {v : Int32} (hd : decode μ.2.1 pc = .ok (.bipush n, 2)) (hp : pc + 2 = q) (hv : (Int8.ofInt n).toInt32 = v) (k : AW μ d b1 b2 g q ls (.int v :: st) M V R Q) : AW μ d b1 b2 g pc ls st M V R Q := by
  subst hp
  intro p l e Rm s m args below meth c H locs cells slots mc ms n0 z sk D cy lo S h1 h2 h3 hR hS hL
  exact lv_bipush S.1 S.2.1 hd hv (k p l e Rm s m args below meth c H locs cells slots mc ms n0 z sk D cy lo S h1 h2 h3 hR hS hL)
theorem aw_sipush (q : Nat) {n : Int} {v : Int32} (hd : decode μ.2.1 pc = .ok (.sipush n, 3)) (hp : pc + 3 = q) (hv : (Int16.ofInt n).toInt32 = v) (k : AW μ d b1 b2 g q ls (.int v :: st) M V R Q) : AW μ d b1 b2 g pc ls st M V R Q := by
  subst hp
  intro p l e Rm s m args below meth c H locs cells slots mc ms n0 z sk D cy lo S h1 h2 h3 hR hS hL
  exact lv_sipush S.1 S.2.1 hd hv (k p l e Rm s m args below meth c H locs cells slots mc ms n0 z sk D cy lo S h1 h2 h3 hR hS hL)
theorem aw_lconst (q : Nat) {n : Fin 2} {v : Int64} (hd : decode μ.2.1 pc = .ok (.lconst n, 1)) (hp : pc + 1 = q) (hv : Int64.ofNat (n : Nat) = v) (k : AW μ d b1 b2 g q ls (.long v :: st) M V R Q) : AW μ d b1 b2 g pc ls st M V R Q := by
  subst hp
  intro p l e Rm s m args below meth c H locs cells slots mc ms n0 z sk D cy lo S h1 h2 h3 hR hS hL
  exact lv_lconst S.1 S.2.1 hd hv (k p l e Rm s m args below meth c H locs cells slots mc ms n0 z sk D cy lo S h1 h2 h3 hR hS hL)
theorem aw_ldc (q : Nat) {idx : Nat} {v : Int32} (hd : decode μ.2.1 pc = .ok (.ldc idx, 2)) (hp : pc + 2 = q) (hw : Cond.constant μ.1.cls idx v ∈ am_g) (k : AW μ d b1 b2 g q ls (.int v :: st) M V R Q) : AW μ d b1 b2 g pc ls st M V R Q := by
  subst hp
  intro p l e Rm s m args below meth c H locs cells slots mc ms n0 z sk D cy lo S h1 h2 h3 hR hS hL
  exact lv_ldc S.1 S.2.1 S.2.2.2.2.1 (S.2.2.2.2.2.1 _ hw) hd (k p l e Rm s m args below meth c H locs cells slots mc ms n0 z sk D cy lo S h1 h2 h3 hR hS hL)
theorem aw_ldcw (q : Nat) {idx : Nat} {v : Int32} (hd : decode μ.2.1 pc = .ok (.ldc_w idx, 3)) (hp : pc + 3 = q) (hw : Cond.constant μ.1.cls idx v ∈ am_g) (k : AW μ d b1 b2 g q ls (.int v :: st) M V R Q) : AW μ d b1 b2 g pc ls st M V R Q := by
  subst hp
  intro p l e Rm s m args below meth c H locs cells slots mc ms n0 z sk D cy lo S h1 h2 h3 hR hS hL
  exact lv_ldcw S.1 S.2.1 S.2.2.2.2.1 (S.2.2.2.2.2.1 _ hw) hd (k p l e Rm s m args below meth c H locs cells slots mc ms n0 z sk D cy lo S h1 h2 h3 hR hS hL)
theorem aw_iload_n (q : Nat) {i : Fin 4} {x : Int32} (hd : decode μ.2.1 pc = .ok (.iload_n i, 1)) (hp : pc + 1 = q) (hl : ls[(i : Nat)]? = some (some (.int x))) (k : AW μ d b1 b2 g q ls (.int x :: st) M V R Q) : AW μ d b1 b2 g pc ls st M V R Q := by
  subst hp
  intro p l e Rm s m args below meth c H locs cells slots mc ms n0 z sk D cy lo S h1 h2 h3 hR hS hL
  exact lv_iload_n S.1 S.2.1 hd rfl (hL.2.2 _ _ hl) (k p l e Rm s m args below meth c H locs cells slots mc ms n0 z sk D cy lo S h1 h2 h3 hR hS hL)
theorem aw_iload (q : Nat) {i : Nat} {x : Int32} (hd : decode μ.2.1 pc = .ok (.iload i, 2)) (hp : pc + 2 = q) (hl : ls[i]? = some (some (.int x))) (k : AW μ d b1 b2 g q ls (.int x :: st) M V R Q) : AW μ d b1 b2 g pc ls st M V R Q := by
  subst hp
  intro p l e Rm s m args below meth c H locs cells slots mc ms n0 z sk D cy lo S h1 h2 h3 hR hS hL
  exact lv_iload S.1 S.2.1 hd (hL.2.2 _ _ hl) (k p l e Rm s m args below meth c H locs cells slots mc ms n0 z sk D cy lo S h1 h2 h3 hR hS hL)
theorem aw_aload_n (q : Nat) {i : Fin 4} {x : Nat} (hd : decode μ.2.1 pc = .ok (.aload_n i, 1)) (hp : pc + 1 = q) (hl : ls[(i : Nat)]? = some (some (.ref x))) (k : AW μ d b1 b2 g q ls (.ref x :: st) M V R Q) : AW μ d b1 b2 g pc ls st M V R Q := by
  subst hp
  intro p l e Rm s m args below meth c H locs cells slots mc ms n0 z sk D cy lo S h1 h2 h3 hR hS hL
  exact lv_aload_n S.1 S.2.1 hd rfl (hL.2.2 _ _ hl) (k p l e Rm s m args below meth c H locs cells slots mc ms n0 z sk D cy lo S h1 h2 h3 hR hS hL)
theorem aw_lload_n (q : Nat) {i : Fin 4} {x : Int64} (hd : decode μ.2.1 pc = .ok (.lload_n i, 1)) (hp : pc + 1 = q) (hl : ls[(i : Nat)]? = some (some (.long x))) (k : AW μ d b1 b2 g q ls (.long x :: st) M V R Q) : AW μ d b1 b2 g pc ls st M V R Q := by
  subst hp
  intro p l e Rm s m args below meth c H locs cells slots mc ms n0 z sk D cy lo S h1 h2 h3 hR hS hL
  exact lv_lload_n S.1 S.2.1 hd rfl (hL.2.2 _ _ hl) (k p l e Rm s m args below meth c H locs cells slots mc ms n0 z sk D cy lo S h1 h2 h3 hR hS hL)
theorem aw_istore_n (q : Nat) {i : Fin 4} {x : Int32} (hd : decode μ.2.1 pc = .ok (.istore_n i, 1)) (hp : pc + 1 = q) (hc : am_c1 ls = true) (hi : (i : Nat) < ls.length) (hm : (i : Nat) < μ.2.2.1) (k : AW μ d b1 b2 g q (ls.set (i : Nat) (some (.int x))) st M V R Q) : AW μ d b1 b2 g pc ls (.int x :: st) M V R Q := by
  subst hp
  intro p l e Rm s m args below meth c H locs cells slots mc ms n0 z sk D cy lo S h1 h2 h3 hR hS hL
  exact lv_istore_n S.1 S.2.1 hd rfl hL.has hm rfl (fun lo' hl' => (k p l e Rm s m args below meth c H locs cells slots mc ms n0 z sk D cy lo' S h1 h2 h3 hR hS (am_lo.set (x := .int x) hc hi hl')))
theorem aw_istore (q : Nat) {i : Nat} {x : Int32} (hd : decode μ.2.1 pc = .ok (.istore i, 2)) (hp : pc + 2 = q) (hc : am_c1 ls = true) (hi : i < ls.length) (hm : i < μ.2.2.1) (k : AW μ d b1 b2 g q (ls.set i (some (.int x))) st M V R Q) : AW μ d b1 b2 g pc ls (.int x :: st) M V R Q := by
  subst hp
  intro p l e Rm s m args below meth c H locs cells slots mc ms n0 z sk D cy lo S h1 h2 h3 hR hS hL
  exact lv_istore S.1 S.2.1 hd hL.has hm rfl (fun lo' hl' => (k p l e Rm s m args below meth c H locs cells slots mc ms n0 z sk D cy lo' S h1 h2 h3 hR hS (am_lo.set (x := .int x) hc hi hl')))
theorem aw_astore_n (q : Nat) {i : Fin 4} {x : Nat} (hd : decode μ.2.1 pc = .ok (.astore_n i, 1)) (hp : pc + 1 = q) (hc : am_c1 ls = true) (hi : (i : Nat) < ls.length) (hm : (i : Nat) < μ.2.2.1) (k : AW μ d b1 b2 g q (ls.set (i : Nat) (some (.ref x))) st M V R Q) : AW μ d b1 b2 g pc ls (.ref x :: st) M V R Q := by
  subst hp
  intro p l e Rm s m args below meth c H locs cells slots mc ms n0 z sk D cy lo S h1 h2 h3 hR hS hL
  exact lv_astore_n S.1 S.2.1 hd rfl hL.has hm rfl (fun lo' hl' => (k p l e Rm s m args below meth c H locs cells slots mc ms n0 z sk D cy lo' S h1 h2 h3 hR hS (am_lo.set (x := .ref x) hc hi hl')))
theorem aw_iinc (q : Nat) {i : Nat} {n : Int} {x v : Int32} (hd : decode μ.2.1 pc = .ok (.iinc i n, 3)) (hp : pc + 3 = q) (hl : ls[i]? = some (some (.int x))) (hv : x + Int32.ofInt n = v) (hc : am_c1 ls = true) (hm : i < μ.2.2.1) (k : AW μ d b1 b2 g q (ls.set i (some (.int v))) st M V R Q) : AW μ d b1 b2 g pc ls st M V R Q := by
  subst hp
  intro p l e Rm s m args below meth c H locs cells slots mc ms n0 z sk D cy lo S h1 h2 h3 hR hS hL
  have hi : i < ls.length := (List.getElem?_eq_some_iff.mp hl).1
  obtain ⟨j, hj⟩ := List.getElem?_of_mem (am_ll_mem (f := am_as z sk) hl)
  exact lv_iinc S.1 S.2.1 hd hL.has (k := j) hj hv hm rfl (fun lo' hl' => k p l e Rm s m args below meth c H locs cells slots mc ms n0 z sk D cy lo' S h1 h2 h3 hR hS (am_lo.set (x := .int v) hc hi hl'))
theorem aw_iadd (q : Nat) {x y : Int32} (hd : decode μ.2.1 pc = .ok (.iadd, 1)) (hp : pc + 1 = q)  (k : AW μ d b1 b2 g q ls (.int (x + y) :: st) M V R Q) : AW μ d b1 b2 g pc ls (.int y :: .int x :: st) M V R Q := by
  subst hp
  intro p l e Rm s m args below meth c H locs cells slots mc ms n0 z sk D cy lo S h1 h2 h3 hR hS hL
  exact lv_iadd S.1 S.2.1 hd (k p l e Rm s m args below meth c H locs cells slots mc ms n0 z sk D cy lo S h1 h2 h3 hR hS hL)
theorem aw_isub (q : Nat) {x y : Int32} (hd : decode μ.2.1 pc = .ok (.isub, 1)) (hp : pc + 1 = q)  (k : AW μ d b1 b2 g q ls (.int (x - y) :: st) M V R Q) : AW μ d b1 b2 g pc ls (.int y :: .int x :: st) M V R Q := by
  subst hp
  intro p l e Rm s m args below meth c H locs cells slots mc ms n0 z sk D cy lo S h1 h2 h3 hR hS hL
  exact lv_isub S.1 S.2.1 hd (k p l e Rm s m args below meth c H locs cells slots mc ms n0 z sk D cy lo S h1 h2 h3 hR hS hL)
theorem aw_imul (q : Nat) {x y : Int32} (hd : decode μ.2.1 pc = .ok (.imul, 1)) (hp : pc + 1 = q)  (k : AW μ d b1 b2 g q ls (.int (x * y) :: st) M V R Q) : AW μ d b1 b2 g pc ls (.int y :: .int x :: st) M V R Q := by
  subst hp
  intro p l e Rm s m args below meth c H locs cells slots mc ms n0 z sk D cy lo S h1 h2 h3 hR hS hL
  exact lv_imul S.1 S.2.1 hd (k p l e Rm s m args below meth c H locs cells slots mc ms n0 z sk D cy lo S h1 h2 h3 hR hS hL)
theorem aw_iand (q : Nat) {x y : Int32} (hd : decode μ.2.1 pc = .ok (.iand, 1)) (hp : pc + 1 = q)  (k : AW μ d b1 b2 g q ls (.int (x &&& y) :: st) M V R Q) : AW μ d b1 b2 g pc ls (.int y :: .int x :: st) M V R Q := by
  subst hp
  intro p l e Rm s m args below meth c H locs cells slots mc ms n0 z sk D cy lo S h1 h2 h3 hR hS hL
  exact lv_iand S.1 S.2.1 hd (k p l e Rm s m args below meth c H locs cells slots mc ms n0 z sk D cy lo S h1 h2 h3 hR hS hL)
theorem aw_ior (q : Nat) {x y : Int32} (hd : decode μ.2.1 pc = .ok (.ior, 1)) (hp : pc + 1 = q)  (k : AW μ d b1 b2 g q ls (.int (x ||| y) :: st) M V R Q) : AW μ d b1 b2 g pc ls (.int y :: .int x :: st) M V R Q := by
  subst hp
  intro p l e Rm s m args below meth c H locs cells slots mc ms n0 z sk D cy lo S h1 h2 h3 hR hS hL
  exact lv_ior S.1 S.2.1 hd (k p l e Rm s m args below meth c H locs cells slots mc ms n0 z sk D cy lo S h1 h2 h3 hR hS hL)
theorem aw_ixor (q : Nat) {x y : Int32} (hd : decode μ.2.1 pc = .ok (.ixor, 1)) (hp : pc + 1 = q)  (k : AW μ d b1 b2 g q ls (.int (x ^^^ y) :: st) M V R Q) : AW μ d b1 b2 g pc ls (.int y :: .int x :: st) M V R Q := by
  subst hp
  intro p l e Rm s m args below meth c H locs cells slots mc ms n0 z sk D cy lo S h1 h2 h3 hR hS hL
  exact lv_ixor S.1 S.2.1 hd (k p l e Rm s m args below meth c H locs cells slots mc ms n0 z sk D cy lo S h1 h2 h3 hR hS hL)
theorem aw_ishl (q : Nat) {x y : Int32} (hd : decode μ.2.1 pc = .ok (.ishl, 1)) (hp : pc + 1 = q)  (k : AW μ d b1 b2 g q ls (.int (x <<< (y &&& 31)) :: st) M V R Q) : AW μ d b1 b2 g pc ls (.int y :: .int x :: st) M V R Q := by
  subst hp
  intro p l e Rm s m args below meth c H locs cells slots mc ms n0 z sk D cy lo S h1 h2 h3 hR hS hL
  exact lv_ishl S.1 S.2.1 hd (k p l e Rm s m args below meth c H locs cells slots mc ms n0 z sk D cy lo S h1 h2 h3 hR hS hL)
theorem aw_ishr (q : Nat) {x y : Int32} (hd : decode μ.2.1 pc = .ok (.ishr, 1)) (hp : pc + 1 = q)  (k : AW μ d b1 b2 g q ls (.int (x >>> (y &&& 31)) :: st) M V R Q) : AW μ d b1 b2 g pc ls (.int y :: .int x :: st) M V R Q := by
  subst hp
  intro p l e Rm s m args below meth c H locs cells slots mc ms n0 z sk D cy lo S h1 h2 h3 hR hS hL
  exact lv_ishr S.1 S.2.1 hd (k p l e Rm s m args below meth c H locs cells slots mc ms n0 z sk D cy lo S h1 h2 h3 hR hS hL)
theorem aw_iushr (q : Nat) {x y v : Int32} (hd : decode μ.2.1 pc = .ok (.iushr, 1)) (hp : pc + 1 = q) (hv : (x.toUInt32 >>> (y.toUInt32 &&& Int32.toUInt32 31)).toInt32 = v) (k : AW μ d b1 b2 g q ls (.int v :: st) M V R Q) : AW μ d b1 b2 g pc ls (.int y :: .int x :: st) M V R Q := by
  subst hp
  intro p l e Rm s m args below meth c H locs cells slots mc ms n0 z sk D cy lo S h1 h2 h3 hR hS hL
  exact lv_iushr S.1 S.2.1 hd hv (k p l e Rm s m args below meth c H locs cells slots mc ms n0 z sk D cy lo S h1 h2 h3 hR hS hL)
theorem aw_idiv (q : Nat) {x y : Int32} (hd : decode μ.2.1 pc = .ok (.idiv, 1)) (hp : pc + 1 = q) (hne : ¬ y = 0) (k : AW μ d b1 b2 g q ls (.int (x / y) :: st) M V R Q) : AW μ d b1 b2 g pc ls (.int y :: .int x :: st) M V R Q := by
  subst hp
  intro p l e Rm s m args below meth c H locs cells slots mc ms n0 z sk D cy lo S h1 h2 h3 hR hS hL
  exact lv_idiv S.1 S.2.1 hd hne (k p l e Rm s m args below meth c H locs cells slots mc ms n0 z sk D cy lo S h1 h2 h3 hR hS hL)
theorem aw_irem (q : Nat) {x y : Int32} (hd : decode μ.2.1 pc = .ok (.irem, 1)) (hp : pc + 1 = q) (hne : ¬ y = 0) (k : AW μ d b1 b2 g q ls (.int (x - x / y * y) :: st) M V R Q) : AW μ d b1 b2 g pc ls (.int y :: .int x :: st) M V R Q := by
  subst hp
  intro p l e Rm s m args below meth c H locs cells slots mc ms n0 z sk D cy lo S h1 h2 h3 hR hS hL
  exact lv_irem S.1 S.2.1 hd hne (k p l e Rm s m args below meth c H locs cells slots mc ms n0 z sk D cy lo S h1 h2 h3 hR hS hL)
theorem aw_ineg (q : Nat) {x : Int32} (hd : decode μ.2.1 pc = .ok (.ineg, 1)) (hp : pc + 1 = q)  (k : AW μ d b1 b2 g q ls (.int (-x) :: st) M V R Q) : AW μ d b1 b2 g pc ls (.int x :: st) M V R Q := by
  subst hp
  intro p l e Rm s m args below meth c H locs cells slots mc ms n0 z sk D cy lo S h1 h2 h3 hR hS hL
  exact lv_ineg S.1 S.2.1 hd (k p l e Rm s m args below meth c H locs cells slots mc ms n0 z sk D cy lo S h1 h2 h3 hR hS hL)
theorem aw_lor (q : Nat) {x y : Int64} (hd : decode μ.2.1 pc = .ok (.lor, 1)) (hp : pc + 1 = q)  (k : AW μ d b1 b2 g q ls (.long (x ||| y) :: st) M V R Q) : AW μ d b1 b2 g pc ls (.long y :: .long x :: st) M V R Q := by
  subst hp
  intro p l e Rm s m args below meth c H locs cells slots mc ms n0 z sk D cy lo S h1 h2 h3 hR hS hL
  exact lv_lor S.1 S.2.1 hd (k p l e Rm s m args below meth c H locs cells slots mc ms n0 z sk D cy lo S h1 h2 h3 hR hS hL)
theorem aw_land (q : Nat) {x y : Int64} (hd : decode μ.2.1 pc = .ok (.land, 1)) (hp : pc + 1 = q)  (k : AW μ d b1 b2 g q ls (.long (x &&& y) :: st) M V R Q) : AW μ d b1 b2 g pc ls (.long y :: .long x :: st) M V R Q := by
  subst hp
  intro p l e Rm s m args below meth c H locs cells slots mc ms n0 z sk D cy lo S h1 h2 h3 hR hS hL
  exact lv_land S.1 S.2.1 hd (k p l e Rm s m args below meth c H locs cells slots mc ms n0 z sk D cy lo S h1 h2 h3 hR hS hL)
theorem aw_lshl (q : Nat) {x v : Int64} {y : Int32} (hd : decode μ.2.1 pc = .ok (.lshl, 1)) (hp : pc + 1 = q) (hv : x <<< (y.toInt64 &&& 63) = v) (k : AW μ d b1 b2 g q ls (.long v :: st) M V R Q) : AW μ d b1 b2 g pc ls (.int y :: .long x :: st) M V R Q := by
  subst hp
  intro p l e Rm s m args below meth c H locs cells slots mc ms n0 z sk D cy lo S h1 h2 h3 hR hS hL
  exact lv_lshl S.1 S.2.1 hd hv (k p l e Rm s m args below meth c H locs cells slots mc ms n0 z sk D cy lo S h1 h2 h3 hR hS hL)
theorem aw_lushr (q : Nat) {x v : Int64} {y : Int32} (hd : decode μ.2.1 pc = .ok (.lushr, 1)) (hp : pc + 1 = q) (hv : (x.toUInt64 >>> (y.toInt64.toUInt64 &&& Int64.toUInt64 63)).toInt64 = v) (k : AW μ d b1 b2 g q ls (.long v :: st) M V R Q) : AW μ d b1 b2 g pc ls (.int y :: .long x :: st) M V R Q := by
  subst hp
  intro p l e Rm s m args below meth c H locs cells slots mc ms n0 z sk D cy lo S h1 h2 h3 hR hS hL
  exact lv_lushr S.1 S.2.1 hd hv (k p l e Rm s m args below meth c H locs cells slots mc ms n0 z sk D cy lo S h1 h2 h3 hR hS hL)
theorem aw_lcmp (q : Nat) {x y : Int64} (hd : decode μ.2.1 pc = .ok (.lcmp, 1)) (hp : pc + 1 = q)  (k : AW μ d b1 b2 g q ls (.int (lg_cmp x y) :: st) M V R Q) : AW μ d b1 b2 g pc ls (.long y :: .long x :: st) M V R Q := by
  subst hp
  intro p l e Rm s m args below meth c H locs cells slots mc ms n0 z sk D cy lo S h1 h2 h3 hR hS hL
  exact W.lcmp S.1 S.2.1 hd (k p l e Rm s m args below meth c H locs cells slots mc ms n0 z sk D cy lo S h1 h2 h3 hR hS hL)
theorem aw_dup (q : Nat) {v : Value} (hd : decode μ.2.1 pc = .ok (.dup, 1)) (hp : pc + 1 = q) (hv : v.category = 1) (k : AW μ d b1 b2 g q ls (v :: v :: st) M V R Q) : AW μ d b1 b2 g pc ls (v :: st) M V R Q := by
  subst hp
  intro p l e Rm s m args below meth c H locs cells slots mc ms n0 z sk D cy lo S h1 h2 h3 hR hS hL
  exact lv_dup S.1 S.2.1 hd (by rw [am_cv_cat]; exact hv) (k p l e Rm s m args below meth c H locs cells slots mc ms n0 z sk D cy lo S h1 h2 h3 hR hS hL)
theorem aw_dup2 (q : Nat) {u v : Value} (hd : decode μ.2.1 pc = .ok (.dup2, 1)) (hp : pc + 1 = q) (hu : u.category = 1) (hv : v.category = 1) (k : AW μ d b1 b2 g q ls (u :: v :: u :: v :: st) M V R Q) : AW μ d b1 b2 g pc ls (u :: v :: st) M V R Q := by
  subst hp
  intro p l e Rm s m args below meth c H locs cells slots mc ms n0 z sk D cy lo S h1 h2 h3 hR hS hL
  exact lv_dup2_11 S.1 S.2.1 hd (by rw [am_cv_cat]; exact hu) (by rw [am_cv_cat]; exact hv) (k p l e Rm s m args below meth c H locs cells slots mc ms n0 z sk D cy lo S h1 h2 h3 hR hS hL)
theorem aw_icmp_eq (t q : Nat) {x y : Int32} {off : Int} (hd : decode μ.2.1 pc = .ok (.if_icmp .eq off, 3)) (ht : (pc : Int) + off = (t : Int)) (hp : pc + 3 = q) (kt : x = y → AW μ d b1 b2 g t ls st M V R Q) (kf : ¬ x = y → AW μ d b1 b2 g q ls st M V R Q) : AW μ d b1 b2 g pc ls (.int y :: .int x :: st) M V R Q := by
  subst hp
  intro p l e Rm s m args below meth c H locs cells slots mc ms n0 z sk D cy lo S h1 h2 h3 hR hS hL
  exact lv_icmp_eq S.1 S.2.1 hd ht (fun q => kt q p l e Rm s m args below meth c H locs cells slots mc ms n0 z sk D cy lo S h1 h2 h3 hR hS hL) (fun q => kf q p l e Rm s m args below meth c H locs cells slots mc ms n0 z sk D cy lo S h1 h2 h3 hR hS hL)
theorem aw_icmp_ne (t q : Nat) {x y : Int32} {off : Int} (hd : decode μ.2.1 pc = .ok (.if_icmp .ne off, 3)) (ht : (pc : Int) + off = (t : Int)) (hp : pc + 3 = q) (kt : ¬ x = y → AW μ d b1 b2 g t ls st M V R Q) (kf : x = y → AW μ d b1 b2 g q ls st M V R Q) : AW μ d b1 b2 g pc ls (.int y :: .int x :: st) M V R Q := by
  subst hp
  intro p l e Rm s m args below meth c H locs cells slots mc ms n0 z sk D cy lo S h1 h2 h3 hR hS hL
  exact lv_icmp_ne S.1 S.2.1 hd ht (fun q => kt q p l e Rm s m args below meth c H locs cells slots mc ms n0 z sk D cy lo S h1 h2 h3 hR hS hL) (fun q => kf q p l e Rm s m args below meth c H locs cells slots mc ms n0 z sk D cy lo S h1 h2 h3 hR hS hL)
theorem aw_icmp_lt (t q : Nat) {x y : Int32} {off : Int} (hd : decode μ.2.1 pc = .ok (.if_icmp .lt off, 3)) (ht : (pc : Int) + off = (t : Int)) (hp : pc + 3 = q) (kt : x < y → AW μ d b1 b2 g t ls st M V R Q) (kf : ¬ x < y → AW μ d b1 b2 g q ls st M V R Q) : AW μ d b1 b2 g pc ls (.int y :: .int x :: st) M V R Q := by
  subst hp
  intro p l e Rm s m args below meth c H locs cells slots mc ms n0 z sk D cy lo S h1 h2 h3 hR hS hL
  exact lv_icmp_lt S.1 S.2.1 hd ht (fun q => kt q p l e Rm s m args below meth c H locs cells slots mc ms n0 z sk D cy lo S h1 h2 h3 hR hS hL) (fun q => kf q p l e Rm s m args below meth c H locs cells slots mc ms n0 z sk D cy lo S h1 h2 h3 hR hS hL)
theorem aw_icmp_ge (t q : Nat) {x y : Int32} {off : Int} (hd : decode μ.2.1 pc = .ok (.if_icmp .ge off, 3)) (ht : (pc : Int) + off = (t : Int)) (hp : pc + 3 = q) (kt : y ≤ x → AW μ d b1 b2 g t ls st M V R Q) (kf : ¬ y ≤ x → AW μ d b1 b2 g q ls st M V R Q) : AW μ d b1 b2 g pc ls (.int y :: .int x :: st) M V R Q := by
  subst hp
  intro p l e Rm s m args below meth c H locs cells slots mc ms n0 z sk D cy lo S h1 h2 h3 hR hS hL
  exact lv_icmp_ge S.1 S.2.1 hd ht (fun q => kt q p l e Rm s m args below meth c H locs cells slots mc ms n0 z sk D cy lo S h1 h2 h3 hR hS hL) (fun q => kf q p l e Rm s m args below meth c H locs cells slots mc ms n0 z sk D cy lo S h1 h2 h3 hR hS hL)
theorem aw_icmp_gt (t q : Nat) {x y : Int32} {off : Int} (hd : decode μ.2.1 pc = .ok (.if_icmp .gt off, 3)) (ht : (pc : Int) + off = (t : Int)) (hp : pc + 3 = q) (kt : y < x → AW μ d b1 b2 g t ls st M V R Q) (kf : ¬ y < x → AW μ d b1 b2 g q ls st M V R Q) : AW μ d b1 b2 g pc ls (.int y :: .int x :: st) M V R Q := by
  subst hp
  intro p l e Rm s m args below meth c H locs cells slots mc ms n0 z sk D cy lo S h1 h2 h3 hR hS hL
  exact lv_icmp_gt S.1 S.2.1 hd ht (fun q => kt q p l e Rm s m args below meth c H locs cells slots mc ms n0 z sk D cy lo S h1 h2 h3 hR hS hL) (fun q => kf q p l e Rm s m args below meth c H locs cells slots mc ms n0 z sk D cy lo S h1 h2 h3 hR hS hL)
theorem aw_icmp_le (t q : Nat) {x y : Int32} {off : Int} (hd : decode μ.2.1 pc = .ok (.if_icmp .le off, 3)) (ht : (pc : Int) + off = (t : Int)) (hp : pc + 3 = q) (kt : x ≤ y → AW μ d b1 b2 g t ls st M V R Q) (kf : ¬ x ≤ y → AW μ d b1 b2 g q ls st M V R Q) : AW μ d b1 b2 g pc ls (.int y :: .int x :: st) M V R Q := by
  subst hp
  intro p l e Rm s m args below meth c H locs cells slots mc ms n0 z sk D cy lo S h1 h2 h3 hR hS hL
  exact lv_icmp_le S.1 S.2.1 hd ht (fun q => kt q p l e Rm s m args below meth c H locs cells slots mc ms n0 z sk D cy lo S h1 h2 h3 hR hS hL) (fun q => kf q p l e Rm s m args below meth c H locs cells slots mc ms n0 z sk D cy lo S h1 h2 h3 hR hS hL)
theorem aw_if_eq (t q : Nat) {x : Int32} {off : Int} (hd : decode μ.2.1 pc = .ok (.ifCond .eq off, 3)) (ht : (pc : Int) + off = (t : Int)) (hp : pc + 3 = q) (kt : x = 0 → AW μ d b1 b2 g t ls st M V R Q) (kf : ¬ x = 0 → AW μ d b1 b2 g q ls st M V R Q) : AW μ d b1 b2 g pc ls (.int x :: st) M V R Q := by
  subst hp
  intro p l e Rm s m args below meth c H locs cells slots mc ms n0 z sk D cy lo S h1 h2 h3 hR hS hL
  exact lv_if_eq S.1 S.2.1 hd ht (fun q => kt q p l e Rm s m args below meth c H locs cells slots mc ms n0 z sk D cy lo S h1 h2 h3 hR hS hL) (fun q => kf q p l e Rm s m args below meth c H locs cells slots mc ms n0 z sk D cy lo S h1 h2 h3 hR hS hL)
theorem aw_if_ne (t q : Nat) {x : Int32} {off : Int} (hd : decode μ.2.1 pc = .ok (.ifCond .ne off, 3)) (ht : (pc : Int) + off = (t : Int)) (hp : pc + 3 = q) (kt : ¬ x = 0 → AW μ d b1 b2 g t ls st M V R Q) (kf : x = 0 → AW μ d b1 b2 g q ls st M V R Q) : AW μ d b1 b2 g pc ls (.int x :: st) M V R Q := by
  subst hp
  intro p l e Rm s m args below meth c H locs cells slots mc ms n0 z sk D cy lo S h1 h2 h3 hR hS hL
  exact lv_if_ne S.1 S.2.1 hd ht (fun q => kt q p l e Rm s m args below meth c H locs cells slots mc ms n0 z sk D cy lo S h1 h2 h3 hR hS hL) (fun q => kf q p l e Rm s m args below meth c H locs cells slots mc ms n0 z sk D cy lo S h1 h2 h3 hR hS hL)
theorem aw_if_lt (t q : Nat) {x : Int32} {off : Int} (hd : decode μ.2.1 pc = .ok (.ifCond .lt off, 3)) (ht : (pc : Int) + off = (t : Int)) (hp : pc + 3 = q) (kt : x < 0 → AW μ d b1 b2 g t ls st M V R Q) (kf : ¬ x < 0 → AW μ d b1 b2 g q ls st M V R Q) : AW μ d b1 b2 g pc ls (.int x :: st) M V R Q := by
  subst hp
  intro p l e Rm s m args below meth c H locs cells slots mc ms n0 z sk D cy lo S h1 h2 h3 hR hS hL
  exact lv_if_lt S.1 S.2.1 hd ht (fun q => kt q p l e Rm s m args below meth c H locs cells slots mc ms n0 z sk D cy lo S h1 h2 h3 hR hS hL) (fun q => kf q p l e Rm s m args below meth c H locs cells slots mc ms n0 z sk D cy lo S h1 h2 h3 hR hS hL)
theorem aw_if_ge (t q : Nat) {x : Int32} {off : Int} (hd : decode μ.2.1 pc = .ok (.ifCond .ge off, 3)) (ht : (pc : Int) + off = (t : Int)) (hp : pc + 3 = q) (kt : 0 ≤ x → AW μ d b1 b2 g t ls st M V R Q) (kf : ¬ 0 ≤ x → AW μ d b1 b2 g q ls st M V R Q) : AW μ d b1 b2 g pc ls (.int x :: st) M V R Q := by
  subst hp
  intro p l e Rm s m args below meth c H locs cells slots mc ms n0 z sk D cy lo S h1 h2 h3 hR hS hL
  exact lv_if_ge S.1 S.2.1 hd ht (fun q => kt q p l e Rm s m args below meth c H locs cells slots mc ms n0 z sk D cy lo S h1 h2 h3 hR hS hL) (fun q => kf q p l e Rm s m args below meth c H locs cells slots mc ms n0 z sk D cy lo S h1 h2 h3 hR hS hL)
theorem aw_if_gt (t q : Nat) {x : Int32} {off : Int} (hd : decode μ.2.1 pc = .ok (.ifCond .gt off, 3)) (ht : (pc : Int) + off = (t : Int)) (hp : pc + 3 = q) (kt : 0 < x → AW μ d b1 b2 g t ls st M V R Q) (kf : ¬ 0 < x → AW μ d b1 b2 g q ls st M V R Q) : AW μ d b1 b2 g pc ls (.int x :: st) M V R Q := by
  subst hp
  intro p l e Rm s m args below meth c H locs cells slots mc ms n0 z sk D cy lo S h1 h2 h3 hR hS hL
  exact lv_if_gt S.1 S.2.1 hd ht (fun q => kt q p l e Rm s m args below meth c H locs cells slots mc ms n0 z sk D cy lo S h1 h2 h3 hR hS hL) (fun q => kf q p l e Rm s m args below meth c H locs cells slots mc ms n0 z sk D cy lo S h1 h2 h3 hR hS hL)
theorem aw_if_le (t q : Nat) {x : Int32} {off : Int} (hd : decode μ.2.1 pc = .ok (.ifCond .le off, 3)) (ht : (pc : Int) + off = (t : Int)) (hp : pc + 3 = q) (kt : x ≤ 0 → AW μ d b1 b2 g t ls st M V R Q) (kf : ¬ x ≤ 0 → AW μ d b1 b2 g q ls st M V R Q) : AW μ d b1 b2 g pc ls (.int x :: st) M V R Q := by
  subst hp
  intro p l e Rm s m args below meth c H locs cells slots mc ms n0 z sk D cy lo S h1 h2 h3 hR hS hL
  exact lv_if_le S.1 S.2.1 hd ht (fun q => kt q p l e Rm s m args below meth c H locs cells slots mc ms n0 z sk D cy lo S h1 h2 h3 hR hS hL) (fun q => kf q p l e Rm s m args below meth c H locs cells slots mc ms n0 z sk D cy lo S h1 h2 h3 hR hS hL)
theorem aw_goto (t : Nat) {off : Int} (hd : decode μ.2.1 pc = .ok (.goto off, 3)) (ht : (pc : Int) + off = (t : Int)) (k : AW μ d b1 b2 g t ls st M V R Q) : AW μ d b1 b2 g pc ls st M V R Q := by
  intro p l e Rm s m args below meth c H locs cells slots mc ms n0 z sk D cy lo S h1 h2 h3 hR hS hL
  exact lv_goto S.1 S.2.1 hd ht (k p l e Rm s m args below meth c H locs cells slots mc ms n0 z sk D cy lo S h1 h2 h3 hR hS hL)
theorem aw_tableOut (t : Nat) {dflt lw hg : Int} {offs : Array Int} {len : Nat} {x : Int32} (hd : decode μ.2.1 pc = .ok (.tableswitch dflt lw hg offs, len)) (h : x.toInt < lw ∨ hg < x.toInt) (ht : (pc : Int) + dflt = (t : Int)) (k : AW μ d b1 b2 g t ls st M V R Q) : AW μ d b1 b2 g pc ls (.int x :: st) M V R Q := by
  intro p l e Rm s m args below meth c H locs cells slots mc ms n0 z sk D cy lo S h1 h2 h3 hR hS hL
  exact lv_tableOut S.1 S.2.1 hd h ht (k p l e Rm s m args below meth c H locs cells slots mc ms n0 z sk D cy lo S h1 h2 h3 hR hS hL)
theorem aw_tableIn (t : Nat) {dflt lw hg off : Int} {offs : Array Int} {len : Nat} {x : Int32} (hd : decode μ.2.1 pc = .ok (.tableswitch dflt lw hg offs, len)) (ha : ¬ x.toInt < lw) (hb : ¬ hg < x.toInt) (ho : offs[(x.toInt - lw).toNat]? = some off) (ht : (pc : Int) + off = (t : Int)) (k : AW μ d b1 b2 g t ls st M V R Q) : AW μ d b1 b2 g pc ls (.int x :: st) M V R Q := by
  intro p l e Rm s m args below meth c H locs cells slots mc ms n0 z sk D cy lo S h1 h2 h3 hR hS hL
  exact lv_tableIn S.1 S.2.1 hd ha hb ho ht (k p l e Rm s m args below meth c H locs cells slots mc ms n0 z sk D cy lo S h1 h2 h3 hR hS hL)
theorem aw_lookup (t : Nat) {dflt off : Int} {ps : Array (Int × Int)} {len : Nat} {x : Int32} (hd : decode μ.2.1 pc = .ok (.lookupswitch dflt ps, len)) (hq : (ps.toList.zip (ps.toList.drop 1)).all (fun (a, next) => a.1 < next.1) = true) (ho : Op.lookupswitch.offset ps.toList dflt x.toInt = off) (ht : (pc : Int) + off = (t : Int)) (k : AW μ d b1 b2 g t ls st M V R Q) : AW μ d b1 b2 g pc ls (.int x :: st) M V R Q := by
  intro p l e Rm s m args below meth c H locs cells slots mc ms n0 z sk D cy lo S h1 h2 h3 hR hS hL
  exact lv_lookup S.1 S.2.1 hd hq ho ht (k p l e Rm s m args below meth c H locs cells slots mc ms n0 z sk D cy lo S h1 h2 h3 hR hS hL)
end AR
end
section
/-! Fields, arrays, what is made, calls, returns of the abstract machine. -/
section AS
variable {μ : am_M} {d b1 b2 : Nat} {g : am_G} {pc : Nat} {ls : List (Option Value)} {st : List Value} {M : am_I} {V : am_J} {R : am_O} {Q : am_Po}

theorem aw_getI (q : Nat) {idx c0 j r : Nat} (hd : decode μ.2.1 pc = .ok (.getfield idx, 3)) (hp : pc + 3 = q) (hf : am_F μ.1.cls idx c0 j false) (ho : am_ob g r c0)  (k : AW μ d b1 b2 g q ls (.int (M r j) :: st) M V R Q) : AW μ d b1 b2 g pc ls (.ref r :: st) M V R Q := by
  subst hp
  intro p l e Rm s m args below meth c H locs cells slots mc ms n0 z sk D cy lo S h1 h2 h3 hR hS hL
  obtain ⟨hx, hb, hret, hml, hown, hts, hlk, hnm, hfr, hlc, hU⟩ := id S
  obtain ⟨hc9, hkN, hrf, hl⟩ := hf
  have he := am_get (z := z) (f := am_as z sk) (cy := cy) (M := M) (V := V) (R := R) ho.1
  rw [am_ce_ob ho.2] at he
  have hv : (am_fs (am_as z sk) c0 (M r) (R r))[j]? = some (.int (M r j)) := by rw [am_fs_get hkN, if_neg (by rw [hrf]; decide)]
  have e1 : am_as z sk r = z + r := am_as_lt (Nat.lt_of_lt_of_le ho.1 hR.1)
  show W p l e Rm s m args below meth c H locs cells slots _ (F0 m pc lo (.ref (am_as z sk r) :: st.map (am_cv (am_as z sk))))
  rw [e1]
  rcases hl with hl | ⟨host, hl⟩
  · exact va_get hx hb hts (am_in c0 hc9) hown hU.1 hR.2 r he (am_cl c0 hc9) j hkN (hts _ hl) (fun _ h => h) hv hd (k p l e Rm s m args below meth c H locs cells slots mc ms n0 z sk D cy lo S h1 h2 h3 hR hS hL)
  · exact va_getN hx hb hts (am_in c0 hc9) hown hU.1 hR.2 r he (am_cl c0 hc9) j hkN (va_Nw.use (am_NW_on _ hl) (hU.2.1 _ hl)) (fun _ h => h) hv hd (k p l e Rm s m args below meth c H locs cells slots mc ms n0 z sk D cy lo S h1 h2 h3 hR hS hL)
theorem aw_getO (q : Nat) {idx c0 j r : Nat} (hd : decode μ.2.1 pc = .ok (.getfield idx, 3)) (hp : pc + 3 = q) (hf : am_F μ.1.cls idx c0 j true) (ho : am_ob g r c0) {i : Nat} (hi : R r j = some i) (k : AW μ d b1 b2 g q ls (.ref i :: st) M V R Q) : AW μ d b1 b2 g pc ls (.ref r :: st) M V R Q := by
  subst hp
  intro p l e Rm s m args below meth c H locs cells slots mc ms n0 z sk D cy lo S h1 h2 h3 hR hS hL
  obtain ⟨hx, hb, hret, hml, hown, hts, hlk, hnm, hfr, hlc, hU⟩ := id S
  obtain ⟨hc9, hkN, hrf, hl⟩ := hf
  have he := am_get (z := z) (f := am_as z sk) (cy := cy) (M := M) (V := V) (R := R) ho.1
  rw [am_ce_ob ho.2] at he
  have hv : (am_fs (am_as z sk) c0 (M r) (R r))[j]? = some (.ref (am_as z sk i)) := by rw [am_fs_get hkN, if_pos hrf, hi]; rfl
  have e1 : am_as z sk r = z + r := am_as_lt (Nat.lt_of_lt_of_le ho.1 hR.1)
  show W p l e Rm s m args below meth c H locs cells slots _ (F0 m pc lo (.ref (am_as z sk r) :: st.map (am_cv (am_as z sk))))
  rw [e1]
  rcases hl with hl | ⟨host, hl⟩
  · exact va_get hx hb hts (am_in c0 hc9) hown hU.1 hR.2 r he (am_cl c0 hc9) j hkN (hts _ hl) (fun _ h => h) hv hd (k p l e Rm s m args below meth c H locs cells slots mc ms n0 z sk D cy lo S h1 h2 h3 hR hS hL)
  · exact va_getN hx hb hts (am_in c0 hc9) hown hU.1 hR.2 r he (am_cl c0 hc9) j hkN (va_Nw.use (am_NW_on _ hl) (hU.2.1 _ hl)) (fun _ h => h) hv hd (k p l e Rm s m args below meth c H locs cells slots mc ms n0 z sk D cy lo S h1 h2 h3 hR hS hL)
theorem aw_putI (q : Nat) {idx c0 j r : Nat} {x : Int32} (hd : decode μ.2.1 pc = .ok (.putfield idx, 3)) (hp : pc + 3 = q) (hf : am_F μ.1.cls idx c0 j false) (hfin : (am_T c0 j).2.2.2 = false) (hft : fits (am_ty c0 j) (.int x) = true) (ho : am_ob g r c0) (k : AW μ d b1 b2 g q ls st (am_up M r j x) V R Q) : AW μ d b1 b2 g pc ls (.int x :: .ref r :: st) M V R Q := by
  subst hp
  intro p l e Rm s m args below meth c H locs cells slots mc ms n0 z sk D cy lo S h1 h2 h3 hR hS hL
  obtain ⟨hx, hb, hret, hml, hown, hts, hlk, hnm, hfr, hlc, hU⟩ := id S
  obtain ⟨hc9, hkN, hrf, hl⟩ := hf
  have he := am_get (z := z) (f := am_as z sk) (cy := cy) (M := M) (V := V) (R := R) ho.1
  rw [am_ce_ob ho.2] at he
  have e1 : am_as z sk r = z + r := am_as_lt (Nat.lt_of_lt_of_le ho.1 hR.1)
  have hw : (am_ws z (am_as z sk) cy g M V R).set r (z + r, .inr (c0, (am_fs (am_as z sk) c0 (M r) (R r)).set j (.int x))) = am_ws z (am_as z sk) cy g (am_up M r j x) V R := by
    refine am_set ho.1 ?_ (fun i hi => am_ceM (am_up_ne hi))
    rw [am_ce_ob ho.2, ← am_fs_set (I := M r) (I' := am_up M r j x r) (O := R r) (O' := R r) (v := .int x) hkN (by rw [if_neg (by rw [hrf]; decide)]; simp [am_up]) (fun i hi => by simp [am_up, hi]) (fun i _ => rfl)]
  show W p l e Rm s m args below meth c H locs cells slots _ (F0 m pc lo (.int x :: .ref (am_as z sk r) :: st.map (am_cv (am_as z sk))))
  rw [e1]
  rcases hl with hl | ⟨host, hl⟩
  · refine va_put hx hb hts (am_in c0 hc9) (am_ty c0) (am_tyok c0 hc9) (am_nm c0 hc9) hown hU.1 hR.2 am_D hS r he (am_cl c0 hc9) j hkN (hts _ hl) (fun _ h => h) hfin (am_tyok c0 hc9 j hkN) (narrow_of_fits hft) hft (by rw [am_fs_len]; exact hkN) hd (fun H1 locs1 hP1 _ hS1 => ?_)
    rw [hw] at hP1
    exact (k p l e Rm s m args below meth c H1 locs1 cells slots mc ms n0 z sk D cy lo S h1 h2 h3 ⟨hR.1, hP1⟩ hS1 hL)
  · refine va_putN hx hb hts (am_in c0 hc9) (am_ty c0) (am_tyok c0 hc9) (am_nm c0 hc9) hown hU.1 hR.2 am_D hS r he (am_cl c0 hc9) j hkN (va_Nw.use (am_NW_on _ hl) (hU.2.1 _ hl)) (fun _ h => h) hfin (am_tyok c0 hc9 j hkN) (narrow_of_fits hft) hft (by rw [am_fs_len]; exact hkN) hd (fun H1 locs1 hP1 _ hS1 => ?_)
    rw [hw] at hP1
    exact (k p l e Rm s m args below meth c H1 locs1 cells slots mc ms n0 z sk D cy lo S h1 h2 h3 ⟨hR.1, hP1⟩ hS1 hL)
theorem aw_putF (q : Nat) {idx c0 j r i : Nat} (hd : decode μ.2.1 pc = .ok (.putfield idx, 3)) (hp : pc + 3 = q) (hf : am_F μ.1.cls idx c0 j true) (hl : Cond.fieldLink μ.1.cls idx (am_T c0 j).1 (am_T c0 j).2.1 (am_T c0 j).2.2.1 ∈ am_g) (hfin : (am_T c0 j).2.2.2 = true) (hi9 : μ.1.name = "<init>") (hdc : (am_T c0 j).1 = μ.1.cls) (ho : am_ob g r c0) (k : AW μ d b1 b2 g q ls st M V (am_up R r j (some i)) Q) : AW μ d b1 b2 g pc ls (.ref i :: .ref r :: st) M V R Q := by
  subst hp
  intro p l e Rm s m args below meth c H locs cells slots mc ms n0 z sk D cy lo S h1 h2 h3 hR hS hL
  obtain ⟨hx, hb, hret, hml, hown, hts, hlk, hnm, hfr, hlc, hU⟩ := id S
  obtain ⟨hc9, hkN, hrf, -⟩ := hf
  have he := am_get (z := z) (f := am_as z sk) (cy := cy) (M := M) (V := V) (R := R) ho.1
  rw [am_ce_ob ho.2] at he
  have e1 : am_as z sk r = z + r := am_as_lt (Nat.lt_of_lt_of_le ho.1 hR.1)
  have hft : fits (am_ty c0 j) (.ref (am_as z sk i)) = true := by
    unfold am_rf at hrf
    cases hty : am_ty c0 j <;> rw [hty] at hrf <;> first | rfl | cases hrf
  have hw : (am_ws z (am_as z sk) cy g M V R).set r (z + r, .inr (c0, (am_fs (am_as z sk) c0 (M r) (R r)).set j (.ref (am_as z sk i)))) = am_ws z (am_as z sk) cy g M V (am_up R r j (some i)) := by
    refine am_set ho.1 ?_ (fun i hi => am_ceR (am_up_ne hi))
    rw [am_ce_ob ho.2, ← am_fs_set (I := M r) (I' := M r) (O := R r) (O' := am_up R r j (some i) r) (v := .ref (am_as z sk i)) hkN (by rw [if_pos hrf]; simp [am_up, va_rf]) (fun i _ => rfl) (fun i hi => by simp [am_up, hi])]
  show W p l e Rm s m args below meth c H locs cells slots _ (F0 m pc lo (.ref (am_as z sk i) :: .ref (am_as z sk r) :: st.map (am_cv (am_as z sk))))
  rw [e1]
  refine va_putF hx hb hts (am_in c0 hc9) (am_ty c0) (am_tyok c0 hc9) (am_nm c0 hc9) hown hU.1 hR.2 am_D hS r he (am_cl c0 hc9) j hkN (hts _ hl) (fun _ h => h) hfin (hnm.trans hi9) hdc (am_tyok c0 hc9 j hkN) (narrow_of_fits hft) hft (by rw [am_fs_len]; exact hkN) hd (fun H1 locs1 hP1 _ hS1 => ?_)
  rw [hw] at hP1
  exact (k p l e Rm s m args below meth c H1 locs1 cells slots mc ms n0 z sk D cy lo S h1 h2 h3 ⟨hR.1, hP1⟩ hS1 hL)
theorem aw_iald (q : Nat) {r n : Nat} {i : Int32} (hd : decode μ.2.1 pc = .ok (.iaload, 1)) (hp : pc + 1 = q) (ha : am_ar g r 0 n) (hi : vp_in i n) (k : AW μ d b1 b2 g q ls (.int (M r i.toNatClampNeg) :: st) M V R Q) : AW μ d b1 b2 g pc ls (.int i :: .ref r :: st) M V R Q := by
  subst hp
  intro p l e Rm s m args below meth c H locs cells slots mc ms n0 z sk D cy lo S h1 h2 h3 hR hS hL
  obtain ⟨hx, hb, hret, hml, hown, hts, hlk, hnm, hfr, hlc, hU⟩ := id S
  have he := am_get (z := z) (f := am_as z sk) (cy := cy) (M := M) (V := V) (R := R) ha.1
  rw [am_ce_0 ha.2.1, ha.2.2] at he
  have e1 : am_as z sk r = z + r := am_as_lt (Nat.lt_of_lt_of_le ha.1 hR.1)
  show W p l e Rm s m args below meth c H locs cells slots _ (F0 m pc lo (.int i :: .ref (am_as z sk r) :: st.map (am_cv (am_as z sk))))
  rw [e1]
  exact va_iald hx hb hU.1 hR.2 r 0 he rfl hi hd (k p l e Rm s m args below meth c H locs cells slots mc ms n0 z sk D cy lo S h1 h2 h3 hR hS hL)
theorem aw_zald (q : Nat) {r n : Nat} {i : Int32} (hd : decode μ.2.1 pc = .ok (.baload, 1)) (hp : pc + 1 = q) (ha : am_ar g r 2 n) (hi : vp_in i n) (k : AW μ d b1 b2 g q ls (.int (M r i.toNatClampNeg) :: st) M V R Q) : AW μ d b1 b2 g pc ls (.int i :: .ref r :: st) M V R Q := by
  subst hp
  intro p l e Rm s m args below meth c H locs cells slots mc ms n0 z sk D cy lo S h1 h2 h3 hR hS hL
  obtain ⟨hx, hb, hret, hml, hown, hts, hlk, hnm, hfr, hlc, hU⟩ := id S
  have he := am_get (z := z) (f := am_as z sk) (cy := cy) (M := M) (V := V) (R := R) ha.1
  rw [am_ce_2 ha.2.1, ha.2.2] at he
  have e1 : am_as z sk r = z + r := am_as_lt (Nat.lt_of_lt_of_le ha.1 hR.1)
  show W p l e Rm s m args below meth c H locs cells slots _ (F0 m pc lo (.int i :: .ref (am_as z sk r) :: st.map (am_cv (am_as z sk))))
  rw [e1]
  exact va_zald hx hb hU.1 hR.2 r 2 he rfl hi hd (k p l e Rm s m args below meth c H locs cells slots mc ms n0 z sk D cy lo S h1 h2 h3 hR hS hL)
theorem aw_lald (q : Nat) {r n : Nat} {i : Int32} (hd : decode μ.2.1 pc = .ok (.laload, 1)) (hp : pc + 1 = q) (ha : am_ar g r 1 n) (hi : vp_in i n) (k : AW μ d b1 b2 g q ls (.long (V r i.toNatClampNeg) :: st) M V R Q) : AW μ d b1 b2 g pc ls (.int i :: .ref r :: st) M V R Q := by
  subst hp
  intro p l e Rm s m args below meth c H locs cells slots mc ms n0 z sk D cy lo S h1 h2 h3 hR hS hL
  obtain ⟨hx, hb, hret, hml, hown, hts, hlk, hnm, hfr, hlc, hU⟩ := id S
  have he := am_get (z := z) (f := am_as z sk) (cy := cy) (M := M) (V := V) (R := R) ha.1
  rw [am_ce_1 ha.2.1, ha.2.2] at he
  have e1 : am_as z sk r = z + r := am_as_lt (Nat.lt_of_lt_of_le ha.1 hR.1)
  show W p l e Rm s m args below meth c H locs cells slots _ (F0 m pc lo (.int i :: .ref (am_as z sk r) :: st.map (am_cv (am_as z sk))))
  rw [e1]
  exact va_lald hx hb hU.1 hR.2 r 1 he rfl hi hd (k p l e Rm s m args below meth c H locs cells slots mc ms n0 z sk D cy lo S h1 h2 h3 hR hS hL)
theorem aw_aald (q : Nat) {r n a : Nat} {i : Int32} (hd : decode μ.2.1 pc = .ok (.aaload, 1)) (hp : pc + 1 = q) (ha : am_ar g r 3 n) (hi : vp_in i n) (hv : R r i.toNatClampNeg = some a) (k : AW μ d b1 b2 g q ls (.ref a :: st) M V R Q) : AW μ d b1 b2 g pc ls (.int i :: .ref r :: st) M V R Q := by
  subst hp
  intro p l e Rm s m args below meth c H locs cells slots mc ms n0 z sk D cy lo S h1 h2 h3 hR hS hL
  obtain ⟨hx, hb, hret, hml, hown, hts, hlk, hnm, hfr, hlc, hU⟩ := id S
  have he := am_get (z := z) (f := am_as z sk) (cy := cy) (M := M) (V := V) (R := R) ha.1
  rw [am_ce_3 ha.2.1, ha.2.2] at he
  have e1 : am_as z sk r = z + r := am_as_lt (Nat.lt_of_lt_of_le ha.1 hR.1)
  have hk := (k p l e Rm s m args below meth c H locs cells slots mc ms n0 z sk D cy lo S h1 h2 h3 hR hS hL)
  show W p l e Rm s m args below meth c H locs cells slots _ (F0 m pc lo (.int i :: .ref (am_as z sk r) :: st.map (am_cv (am_as z sk))))
  rw [e1]
  refine va_aldq hx hb hU.1 hR.2 r 3 he rfl hi hd ?_
  rw [hv]
  exact hk
theorem aw_alen (q : Nat) {r t n : Nat} {v : Int32} (hd : decode μ.2.1 pc = .ok (.arraylength, 1)) (hp : pc + 1 = q) (ha : am_ar g r t n) (ht : t = 0 ∨ t = 2) (hv : Int32.ofNat n = v) (k : AW μ d b1 b2 g q ls (.int v :: st) M V R Q) : AW μ d b1 b2 g pc ls (.ref r :: st) M V R Q := by
  subst hp
  intro p l e Rm s m args below meth c H locs cells slots mc ms n0 z sk D cy lo S h1 h2 h3 hR hS hL
  obtain ⟨hx, hb, hret, hml, hown, hts, hlk, hnm, hfr, hlc, hU⟩ := id S
  have he := am_get (z := z) (f := am_as z sk) (cy := cy) (M := M) (V := V) (R := R) ha.1
  have e1 : am_as z sk r = z + r := am_as_lt (Nat.lt_of_lt_of_le ha.1 hR.1)
  show W p l e Rm s m args below meth c H locs cells slots _ (F0 m pc lo (.ref (am_as z sk r) :: st.map (am_cv (am_as z sk))))
  rw [e1]
  rcases ht with rfl | rfl
  · rw [am_ce_0 ha.2.1, ha.2.2] at he
    exact va_alen hx hb hU.1 hR.2 r 0 he rfl hv hd (k p l e Rm s m args below meth c H locs cells slots mc ms n0 z sk D cy lo S h1 h2 h3 hR hS hL)
  · rw [am_ce_2 ha.2.1, ha.2.2] at he
    exact va_alen hx hb hU.1 hR.2 r 2 he rfl hv hd (k p l e Rm s m args below meth c H locs cells slots mc ms n0 z sk D cy lo S h1 h2 h3 hR hS hL)
theorem aw_iast (q : Nat) {r n : Nat} {i : Int32} {x : Int32} (hd : decode μ.2.1 pc = .ok (.iastore, 1)) (hp : pc + 1 = q) (ha : am_ar g r 0 n) (hi : vp_in i n) (k : AW μ d b1 b2 g q ls st (am_up M r i.toNatClampNeg x) V R Q) : AW μ d b1 b2 g pc ls ((.int x) :: .int i :: .ref r :: st) M V R Q := by
  subst hp
  intro p l e Rm s m args below meth c H locs cells slots mc ms n0 z sk D cy lo S h1 h2 h3 hR hS hL
  obtain ⟨hx, hb, hret, hml, hown, hts, hlk, hnm, hfr, hlc, hU⟩ := id S
  have he := am_get (z := z) (f := am_as z sk) (cy := cy) (M := M) (V := V) (R := R) ha.1
  rw [am_ce_0 ha.2.1, ha.2.2] at he
  have e1 : am_as z sk r = z + r := am_as_lt (Nat.lt_of_lt_of_le ha.1 hR.1)
  have hw : (am_ws z (am_as z sk) cy g M V R).set r (z + r, .inl (cy 0, n, .inl (upd (M r) i.toNatClampNeg x))) = am_ws z (am_as z sk) cy g (am_up M r i.toNatClampNeg x) V R := by
    refine am_set ha.1 ?_ (fun i hi => am_ceM (am_up_ne hi))
    rw [am_ce_0 ha.2.1, ha.2.2, am_up_self]
    rfl
  show W p l e Rm s m args below meth c H locs cells slots _ (F0 m pc lo ((.int x) :: .int i :: .ref (am_as z sk r) :: st.map (am_cv (am_as z sk))))
  rw [e1]
  refine va_iast hx hb hU.1 hR.2 am_D hS r 0 he rfl hi hd (fun H1 locs1 hP1 _ hS1 => ?_)
  rw [hw] at hP1
  exact (k p l e Rm s m args below meth c H1 locs1 cells slots mc ms n0 z sk D cy lo S h1 h2 h3 ⟨hR.1, hP1⟩ hS1 hL)
theorem aw_zast (q : Nat) {r n : Nat} {i : Int32} {x : Int32} (hx9 : vp_nar .boolean x = x) (hd : decode μ.2.1 pc = .ok (.bastore, 1)) (hp : pc + 1 = q) (ha : am_ar g r 2 n) (hi : vp_in i n) (k : AW μ d b1 b2 g q ls st (am_up M r i.toNatClampNeg x) V R Q) : AW μ d b1 b2 g pc ls ((.int x) :: .int i :: .ref r :: st) M V R Q := by
  subst hp
  intro p l e Rm s m args below meth c H locs cells slots mc ms n0 z sk D cy lo S h1 h2 h3 hR hS hL
  obtain ⟨hx, hb, hret, hml, hown, hts, hlk, hnm, hfr, hlc, hU⟩ := id S
  have he := am_get (z := z) (f := am_as z sk) (cy := cy) (M := M) (V := V) (R := R) ha.1
  rw [am_ce_2 ha.2.1, ha.2.2] at he
  have e1 : am_as z sk r = z + r := am_as_lt (Nat.lt_of_lt_of_le ha.1 hR.1)
  have hw : (am_ws z (am_as z sk) cy g M V R).set r (z + r, .inl (cy 2, n, .inl (upd (M r) i.toNatClampNeg x))) = am_ws z (am_as z sk) cy g (am_up M r i.toNatClampNeg x) V R := by
    refine am_set ha.1 ?_ (fun i hi => am_ceM (am_up_ne hi))
    rw [am_ce_2 ha.2.1, ha.2.2, am_up_self]
    rfl
  show W p l e Rm s m args below meth c H locs cells slots _ (F0 m pc lo ((.int x) :: .int i :: .ref (am_as z sk r) :: st.map (am_cv (am_as z sk))))
  rw [e1]
  refine va_zast hx hb hU.1 hR.2 am_D hS r 2 he rfl hi hd (fun H1 locs1 hP1 _ hS1 => ?_)
  rw [hx9] at hP1
  rw [hw] at hP1
  exact (k p l e Rm s m args below meth c H1 locs1 cells slots mc ms n0 z sk D cy lo S h1 h2 h3 ⟨hR.1, hP1⟩ hS1 hL)
theorem aw_last (q : Nat) {r n : Nat} {i : Int32} {x : Int64} (hd : decode μ.2.1 pc = .ok (.lastore, 1)) (hp : pc + 1 = q) (ha : am_ar g r 1 n) (hi : vp_in i n) (k : AW μ d b1 b2 g q ls st M (am_up V r i.toNatClampNeg x) R Q) : AW μ d b1 b2 g pc ls ((.long x) :: .int i :: .ref r :: st) M V R Q := by
  subst hp
  intro p l e Rm s m args below meth c H locs cells slots mc ms n0 z sk D cy lo S h1 h2 h3 hR hS hL
  obtain ⟨hx, hb, hret, hml, hown, hts, hlk, hnm, hfr, hlc, hU⟩ := id S
  have he := am_get (z := z) (f := am_as z sk) (cy := cy) (M := M) (V := V) (R := R) ha.1
  rw [am_ce_1 ha.2.1, ha.2.2] at he
  have e1 : am_as z sk r = z + r := am_as_lt (Nat.lt_of_lt_of_le ha.1 hR.1)
  have hw : (am_ws z (am_as z sk) cy g M V R).set r (z + r, .inl (cy 1, n, .inr (.inl (vp_updL (V r) i.toNatClampNeg x)))) = am_ws z (am_as z sk) cy g M (am_up V r i.toNatClampNeg x) R := by
    refine am_set ha.1 ?_ (fun i hi => am_ceV (am_up_ne hi))
    rw [am_ce_1 ha.2.1, ha.2.2, am_up_self]
    rfl
  show W p l e Rm s m args below meth c H locs cells slots _ (F0 m pc lo ((.long x) :: .int i :: .ref (am_as z sk r) :: st.map (am_cv (am_as z sk))))
  rw [e1]
  refine va_last hx hb hU.1 hR.2 am_D hS r 1 he rfl hi hd (fun H1 locs1 hP1 _ hS1 => ?_)
  rw [hw] at hP1
  exact (k p l e Rm s m args below meth c H1 locs1 cells slots mc ms n0 z sk D cy lo S h1 h2 h3 ⟨hR.1, hP1⟩ hS1 hL)
theorem aw_aast (q : Nat) {r n a : Nat} {i : Int32} (hd : decode μ.2.1 pc = .ok (.aastore, 1)) (hp : pc + 1 = q) (ha : am_ar g r 3 n) (hi : vp_in i n) (ho : am_ob g a 6) (k : AW μ d b1 b2 g q ls st M V (am_up R r i.toNatClampNeg (some a)) Q) : AW μ d b1 b2 g pc ls (.ref a :: .int i :: .ref r :: st) M V R Q := by
  subst hp
  intro p l e Rm s m args below meth c H locs cells slots mc ms n0 z sk D cy lo S h1 h2 h3 hR hS hL
  obtain ⟨hx, hb, hret, hml, hown, hts, hlk, hnm, hfr, hlc, hU⟩ := id S
  have he := am_get (z := z) (f := am_as z sk) (cy := cy) (M := M) (V := V) (R := R) ha.1
  rw [am_ce_3 ha.2.1, ha.2.2] at he
  have hv := am_get (z := z) (f := am_as z sk) (cy := cy) (M := M) (V := V) (R := R) ho.1
  rw [am_ce_ob ho.2] at hv
  have e1 : am_as z sk r = z + r := am_as_lt (Nat.lt_of_lt_of_le ha.1 hR.1)
  have e2 : am_as z sk a = z + a := am_as_lt (Nat.lt_of_lt_of_le ho.1 hR.1)
  have hw : (am_ws z (am_as z sk) cy g M V R).set r (z + r, .inl (cy 3, n, .inr (.inr (.inr (.inr (va_up (fun k => (R r k).map (am_as z sk)) i.toNatClampNeg (some (z + a)))))))) = am_ws z (am_as z sk) cy g M V (am_up R r i.toNatClampNeg (some a)) := by
    refine am_set ha.1 ?_ (fun i hi => am_ceR (am_up_ne hi))
    rw [am_ce_3 ha.2.1, ha.2.2, am_up_self]
    refine congrArg (fun F => Sum.inl (cy 3, n, Sum.inr (Sum.inr (Sum.inr (Sum.inr F))))) (funext fun q => ?_)
    by_cases hq : q = i.toNatClampNeg
    · simp [va_up, hq, e2]
    · simp [va_up, hq]
  show W p l e Rm s m args below meth c H locs cells slots _ (F0 m pc lo (.ref (am_as z sk a) :: .int i :: .ref (am_as z sk r) :: st.map (am_cv (am_as z sk))))
  rw [e1, e2]
  refine va_astq hx hb hU.1 hR.2 am_D hS r 3 a 6 he rfl hv rfl hi hd (fun H1 locs1 hP1 _ hS1 => ?_)
  rw [hw] at hP1
  exact (k p l e Rm s m args below meth c H1 locs1 cells slots mc ms n0 z sk D cy lo S h1 h2 h3 ⟨hR.1, hP1⟩ hS1 hL)
theorem aw_copy (q : Nat) {idx r0 r1 n0 n1 : Nat} {sp dp n : Int32} (hd : decode μ.2.1 pc = .ok (.invokestatic idx, 3)) (hp : pc + 3 = q) (hlk : Cond.methodLink μ.1.cls idx arraycopyName ∈ am_g) (ha0 : am_ar g r0 0 n0) (ha1 : am_ar g r1 0 n1) (g1 : ¬ sp < 0) (g2 : ¬ dp < 0) (g3 : ¬ n < 0) (g4 : sp.toNatClampNeg + n.toNatClampNeg ≤ n0) (g5 : dp.toNatClampNeg + n.toNatClampNeg ≤ n1) (hd1 : 1 ≤ d) (hst : (st.map fun v => v.category).sum ≤ 8) (k : AW μ d b1 b2 g q ls st (am_row M r1 (va_cpy (M r0) (M r1) sp.toNatClampNeg dp.toNatClampNeg n.toNatClampNeg)) V R Q) : AW μ d b1 b2 g pc ls (.int n :: .int dp :: .ref r1 :: .int sp :: .ref r0 :: st) M V R Q := by
  subst hp
  intro p l e Rm s m args below meth c H locs cells slots mc ms nn z sk D cy lo S h1 h2 h3 hR hS hL
  obtain ⟨hx, hb, hret, hml, hown, hts, -, hnm, hfr, hlc, hU⟩ := id S
  have he0 := am_get (z := z) (f := am_as z sk) (cy := cy) (M := M) (V := V) (R := R) ha0.1
  rw [am_ce_0 ha0.2.1, ha0.2.2] at he0
  have he1 := am_get (z := z) (f := am_as z sk) (cy := cy) (M := M) (V := V) (R := R) ha1.1
  rw [am_ce_0 ha1.2.1, ha1.2.2] at he1
  have e0 : am_as z sk r0 = z + r0 := am_as_lt (Nat.lt_of_lt_of_le ha0.1 hR.1)
  have e1 : am_as z sk r1 = z + r1 := am_as_lt (Nat.lt_of_lt_of_le ha1.1 hR.1)
  have hw : (am_ws z (am_as z sk) cy g M V R).set r1 (z + r1, .inl (cy 0, n1, .inl (va_cpy (M r0) (M r1) sp.toNatClampNeg dp.toNatClampNeg n.toNatClampNeg))) = am_ws z (am_as z sk) cy g (am_row M r1 (va_cpy (M r0) (M r1) sp.toNatClampNeg dp.toNatClampNeg n.toNatClampNeg)) V R := by
    refine am_set ha1.1 ?_ (fun i hi => am_ceM (by simp [am_row, hi]))
    rw [am_ce_0 ha1.2.1, ha1.2.2]
    simp [am_row]
  have hcs : ((st.map (am_cv (am_as z sk))).map fun v => v.category).sum = (st.map fun v => v.category).sum := by
    rw [List.map_map]
    congr 1
    exact List.map_congr_left (fun v _ => am_cv_cat _ v)
  show W p l e Rm s m args below meth c H locs cells slots _ (F0 m pc lo (.int n :: .int dp :: .ref (am_as z sk r1) :: .int sp :: .ref (am_as z sk r0) :: st.map (am_cv (am_as z sk))))
  rw [e0, e1]
  refine va_copyi hx hb (hml.trans hL.1.symm) hown (hts _ hlk) (hts _ jm_copy.1) (hts _ jm_copy.2.1) (hts _ jm_copy.2.2) hU.1 hR.2 am_D hS r0 r1 0 0 he0 he1 rfl rfl rfl g1 g2 g3 g4 g5 (fun _ _ => rfl) (Nat.le_trans hd1 hfr) (by rw [hcs]; have e9 : nativeFrameWords "java/lang/System" "arraycopy" 5 = 7 := (by decide); rw [e9]; omega) hd (fun H1 locs1 hP1 _ hS1 => ?_)
  rw [hw] at hP1
  exact k p l e Rm s m args below meth c H1 locs1 cells slots mc ms nn z sk D cy lo S h1 h2 h3 ⟨hR.1, hP1⟩ hS1 hL
theorem aw_abs (q : Nat) {idx : Nat} {x : Int32} (hd : decode μ.2.1 pc = .ok (.invokestatic idx, 3)) (hp : pc + 3 = q) (hlk : Cond.methodLink μ.1.cls idx Lib.Math.abs.name ∈ am_g) (hd1 : 1 ≤ d) (hst : (st.map fun v => v.category).sum ≤ 8) (k : AW μ d b1 b2 g q ls (.int (if 0 ≤ x then x else 0 - x) :: st) M V R Q) : AW μ d b1 b2 g pc ls (.int x :: st) M V R Q := by
  subst hp
  intro p l e Rm s m args below meth c H locs cells slots mc ms n0 z sk D cy lo S h1 h2 h3 hR hS hL
  obtain ⟨hx, hb, hret, hml, hown, hts, -, hnm, hfr, hlc, hU⟩ := id S
  have hcs : ((st.map (am_cv (am_as z sk))).map fun v => v.category).sum = (st.map fun v => v.category).sum := by
    rw [List.map_map]
    congr 1
    exact List.map_congr_left (fun v _ => am_cv_cat _ v)
  exact va_mabs hx hb (hml.trans hL.1.symm) hown (hts _ hlk) (hts _ jm_abs.1) (hts _ jm_abs.2.1) (hts _ jm_abs.2.2) (Nat.le_trans hd1 hfr) (by rw [hcs]; omega) (by omega) (by omega) hd (k p l e Rm s m args below meth c H locs cells slots mc ms n0 z sk D cy lo S h1 h2 h3 hR hS hL)
theorem aw_min (q : Nat) {idx : Nat} {x y : Int32} (hd : decode μ.2.1 pc = .ok (.invokestatic idx, 3)) (hp : pc + 3 = q) (hlk : Cond.methodLink μ.1.cls idx Lib.Math.min.name ∈ am_g) (hd1 : 1 ≤ d) (hst : (st.map fun v => v.category).sum ≤ 8) (k : AW μ d b1 b2 g q ls (.int (if y < x then y else x) :: st) M V R Q) : AW μ d b1 b2 g pc ls (.int y :: .int x :: st) M V R Q := by
  subst hp
  intro p l e Rm s m args below meth c H locs cells slots mc ms n0 z sk D cy lo S h1 h2 h3 hR hS hL
  obtain ⟨hx, hb, hret, hml, hown, hts, -, hnm, hfr, hlc, hU⟩ := id S
  have hcs : ((st.map (am_cv (am_as z sk))).map fun v => v.category).sum = (st.map fun v => v.category).sum := by
    rw [List.map_map]
    congr 1
    exact List.map_congr_left (fun v _ => am_cv_cat _ v)
  exact va_mmin hx hb (hml.trans hL.1.symm) hown (hts _ hlk) (hts _ jm_min.1) (hts _ jm_min.2.1) (hts _ jm_min.2.2) (Nat.le_trans hd1 hfr) (by rw [hcs]; omega) (by omega) (by omega) hd (k p l e Rm s m args below meth c H locs cells slots mc ms n0 z sk D cy lo S h1 h2 h3 hR hS hL)
theorem aw_max (q : Nat) {idx : Nat} {x y : Int32} (hd : decode μ.2.1 pc = .ok (.invokestatic idx, 3)) (hp : pc + 3 = q) (hlk : Cond.methodLink μ.1.cls idx Lib.Math.max.name ∈ am_g) (hd1 : 1 ≤ d) (hst : (st.map fun v => v.category).sum ≤ 8) (k : AW μ d b1 b2 g q ls (.int (if x < y then y else x) :: st) M V R Q) : AW μ d b1 b2 g pc ls (.int y :: .int x :: st) M V R Q := by
  subst hp
  intro p l e Rm s m args below meth c H locs cells slots mc ms n0 z sk D cy lo S h1 h2 h3 hR hS hL
  obtain ⟨hx, hb, hret, hml, hown, hts, -, hnm, hfr, hlc, hU⟩ := id S
  have hcs : ((st.map (am_cv (am_as z sk))).map fun v => v.category).sum = (st.map fun v => v.category).sum := by
    rw [List.map_map]
    congr 1
    exact List.map_congr_left (fun v _ => am_cv_cat _ v)
  exact va_mmax hx hb (hml.trans hL.1.symm) hown (hts _ hlk) (hts _ jm_max.1) (hts _ jm_max.2.1) (hts _ jm_max.2.2) (Nat.le_trans hd1 hfr) (by rw [hcs]; omega) (by omega) (by omega) hd (k p l e Rm s m args below meth c H locs cells slots mc ms n0 z sk D cy lo S h1 h2 h3 hR hS hL)
end AS
end
section
/-! What is made, calls, returns, contracts of the abstract machine. -/
section AT
variable {μ : am_M} {d b1 b2 : Nat} {g : am_G} {pc : Nat} {ls : List (Option Value)} {st : List Value} {M : am_I} {V : am_J} {R : am_O} {Q : am_Po}
theorem am_size {p : Program} {l : Launch} {e : Env} {Rm : Room} {s : State} {m : MethodId} {args : Array Value} {below : List Frame} {meth : Method} {c : Code} {H : Heap} {locs : List Loc} {cells slots n0 z : Nat} {sk : Nat → Nat} {D : va_G} {cy : Nat → ClassId} {Z : State → Prop} {fr : JFrame} (h3 : s.heap.size = z + n0 ∧ cells + n0 = g.1) (hR : am_R z sk D cy g M V R H) (hS : va_S (am_A z) s.heap H locs) (k : H.size = z + g.1 → W p l e Rm s m args below meth c H locs cells slots Z fr) : W p l e Rm s m args below meth c H locs cells slots Z fr := by
  intro T hT X
  refine k ?_ T hT X
  have h1 := X.heapSize
  rw [hT] at h1
  have h2 : z + g.1 ≤ H.size := by
    by_cases h0 : g.1 = 0
    · have := hS.1
      omega
    · have hl : g.1 - 1 < g.1 := by omega
      have h4 := (hR.2 (g.1 - 1) _ (am_get hl)).lt
      have h5 : z + (g.1 - 1) < H.size := h4
      omega
  omega
/-- one more cell -/
def am_gN (g : am_G) (t n : Nat) : am_G := (g.1 + 1, (fun i => if i = g.1 then t else g.2.1 i), (fun i => if i = g.1 then n else g.2.2 i))
theorem am_ws_push {z : Nat} {f : Nat → Nat} {cy : Nat → ClassId} {t n : Nat} {M' : am_I} {V' : am_J} {R' : am_O} (hM : ∀ i, i < g.1 → M' i = M i) (hV : ∀ i, i < g.1 → V' i = V i) (hO : ∀ i, i < g.1 → R' i = R i) : am_ws z f cy (am_gN g t n) M' V' R' = am_ws z f cy g M V R ++ [(z + g.1, am_ce f cy (am_gN g t n) M' V' R' g.1)] := by
  unfold am_ws
  rw [show (am_gN g t n).1 = g.1 + 1 from rfl, List.range_succ, List.map_append]
  congr 1
  apply List.map_congr_left
  intro i hi
  have hlt : i < g.1 := List.mem_range.mp hi
  have hne : i ≠ g.1 := Nat.ne_of_lt hlt
  simp only [am_ce, am_gN, if_neg hne, hM i hlt, hV i hlt, hO i hlt]
theorem am_push {z : Nat} {sk : Nat → Nat} {D : va_G} {cy : Nat → ClassId} {t n : Nat} {M' : am_I} {V' : am_J} {R' : am_O} {H H1 : Heap} (hR : am_R z sk D cy g M V R H) (hsz : H.size = z + g.1) (hlt : g.1 < 1000) (hM : ∀ i, i < g.1 → M' i = M i) (hV : ∀ i, i < g.1 → V' i = V i) (hO : ∀ i, i < g.1 → R' i = R i) (o1 : ∀ q : Nat, q < H.size → H1[q]? = H[q]?) (hn : va_at D vwCl (z + g.1, am_ce (am_as z sk) cy (am_gN g t n) M' V' R' g.1) H1) : am_R z sk D cy (am_gN g t n) M' V' R' H1 := by
  refine ⟨hlt, ?_⟩
  rw [am_ws_push hM hV hO]
  refine (hR.2.kept (fun k q hk => ?_)).app (fun k q hk => ?_)
  · exact o1 q.1 ((hR.2 k q hk).lt)
  · have hz : k < 1 := (List.getElem?_eq_some_iff.mp hk).1
    rw [show k = 0 by omega] at hk
    cases hk
    exact hn
theorem am_S_push {z : Nat} {s : State} {H H1 : Heap} {locs : List Loc} (hS : va_S (am_A z) s.heap H locs) (z1 : H1.size = H.size + 1) (o1 : ∀ q : Nat, q < H.size → H1[q]? = H[q]?) : va_S (am_A z) s.heap H1 locs :=
  ⟨Nat.le_trans hS.1 (by omega), fun x g1 g2 => (o1 x (Nat.lt_of_lt_of_le g1 hS.1)).trans (hS.2.1 x g1 g2), hS.2.2⟩
theorem am_tyk : ∀ c0, c0 < 9 → ∀ k, k < am_N c0 → am_ty c0 k = .int ∨ am_ty c0 k = .boolean ∨ am_rf c0 k = true := am_lt9 (by decide +kernel) (by decide +kernel) (by decide +kernel) (by decide +kernel) (by decide +kernel) (by decide +kernel) (by decide +kernel) (by decide +kernel) (by decide +kernel)
theorem am_dflt {c0 k : Nat} (hk : k < am_N c0) (hc9 : c0 < 9) (f : Nat → Nat) : defaultValue (am_ty c0 k) = vp_V (am_fs f c0 (fun _ => 0) (fun _ => none)) k := by
  unfold vp_V
  rw [List.getD_eq_getElem?_getD, am_fs_get hk]
  have h : am_ty c0 k = .int ∨ am_ty c0 k = .boolean ∨ am_rf c0 k = true := am_tyk c0 hc9 k hk
  rcases h with h | h | h
  · simp [am_rf, h, defaultValue]
  · simp [am_rf, h, defaultValue]
  · simp only [h, if_true, Option.map_none, va_rf]
    unfold am_rf at h
    cases hty : am_ty c0 k <;> rw [hty] at h <;> first | rfl | cases h
theorem aw_new (q : Nat) {idx c0 : Nat} (hd : decode μ.2.1 pc = .ok (.new idx, 3)) (hp : pc + 3 = q) (hw : am_nw μ.1.cls idx c0) (hlt : g.1 < 1000) (k : AW μ d b1 b2 (am_gN g (c0 + 4) 0) q ls (.ref g.1 :: st) (am_row M g.1 (fun _ => 0)) V (am_row R g.1 (fun _ => none)) Q) : AW μ d (b1 + 1) (b2 + am_N c0) g pc ls st M V R Q := by
  subst hp
  intro p l e Rm s m args below meth c H locs cells slots mc ms n0 z sk D cy lo S h1 h2 h3 hR hS hL
  obtain ⟨hx, hb, hret, hml, hown, hts, hlk, hnm, hfr, hlc, hU⟩ := id S
  obtain ⟨hc9, w1, w2, w3⟩ := hw
  refine am_size h3 hR hS (fun hsz => ?_)
  have hKn := hU.1.1 c0 _ (am_cl c0 hc9)
  refine W.newcK hx hb hown (hts _ w1) (hts _ w2) (hts _ w3) rfl hd (by omega) (by omega) hKn.2.1 hsz fun H1 kC hkC e1 z1 o1 => ?_
  have e9 : am_as z sk g.1 = z + g.1 := am_as_lt hlt
  have hk := k p l e Rm s m args below meth c H1 locs (cells + 1) (slots + am_N c0) mc ms n0 z sk D cy lo S ⟨by omega, by omega⟩ h2 ⟨h3.1, by show cells + 1 + n0 = g.1 + 1; omega⟩ (am_push hR hsz hlt (fun i hi => by simp [am_row, Nat.ne_of_lt hi]) (fun i _ => rfl) (fun i hi => by simp [am_row, Nat.ne_of_lt hi]) (by rw [hsz]; exact o1) (by
    rw [am_ce_ob (c := c0) (by simp [am_gN])]
    refine ⟨_, am_cl c0 hc9, (u_born (am_ty c0) hts (am_in c0 hc9) hKn hkC e1 (am_tyok c0 hc9)).to (fun j hj => ?_)⟩
    simp only [am_row, if_true]
    exact am_dflt hj hc9 _)) (am_S_push hS (by omega) (by rw [hsz]; exact o1)) hL
  rw [show ((Value.ref g.1 :: st).map (am_cv (am_as z sk))) = .ref (z + g.1) :: st.map (am_cv (am_as z sk)) by rw [← e9]; rfl] at hk
  exact hk

theorem aw_newI (q : Nat) {n : Int32} {N' : Nat} (hd : decode μ.2.1 pc = .ok (.newarray .int, 2)) (hp : pc + 2 = q) (hn : ¬ n < 0) (hN : n.toNatClampNeg = N') (hN9 : N' ≤ 1000) (hlt : g.1 < 1000) (k : AW μ d b1 b2 (am_gN g 0 N') q ls (.ref g.1 :: st) (am_row M g.1 (fun _ => 0)) (V) R Q) : AW μ d (b1 + 1) (b2 + N') g pc ls (.int n :: st) M V R Q := by
  subst hp
  intro p l e Rm s m args below meth c H locs cells slots mc ms n0 z sk D cy lo S h1 h2 h3 hR hS hL
  obtain ⟨hx, hb, hret, hml, hown, hts, hlk, hnm, hfr, hlc, hU⟩ := id S
  refine am_size h3 hR hS (fun hsz => ?_)
  refine va_newaK hx hb (atype := .int) (hts _ jm_aint) rfl hd rfl hn hN (by show N' * 4 ≤ _; omega) (by omega) (by omega) hsz fun H1 cA e1 z1 o1 hAr hNm => ?_
  have e9 : am_as z sk g.1 = z + g.1 := am_as_lt hlt
  have hcy : cA = cy 0 := by
    have h8 := (hU.1.2 0 (cy 0, .int) rfl).2
    exact Option.some.inj (hNm.symm.trans h8)
  subst hcy
  have hk := k p l e Rm s m args below meth c H1 locs (cells + 1) (slots + N') mc ms n0 z sk D cy lo S ⟨by omega, by omega⟩ h2 ⟨h3.1, by show cells + 1 + n0 = g.1 + 1; omega⟩ (am_push hR hsz hlt (fun i hi => by simp [am_row, Nat.ne_of_lt hi]) (fun i hi => by simp [am_row, Nat.ne_of_lt hi]) (fun i hi => by simp [am_row, Nat.ne_of_lt hi]) (by rw [hsz]; exact o1) (by
    rw [am_ce_0 (by simp [am_gN])]
    show H1[z + g.1]? = some (vp_cell _ _)
    rw [e1]
    simp only [am_row, am_gN, if_true]
    rfl)) (am_S_push hS (by omega) (by rw [hsz]; exact o1)) hL
  rw [show ((Value.ref g.1 :: st).map (am_cv (am_as z sk))) = .ref (z + g.1) :: st.map (am_cv (am_as z sk)) by rw [← e9]; rfl] at hk
  exact hk

theorem aw_newZ (q : Nat) {n : Int32} {N' : Nat} (hd : decode μ.2.1 pc = .ok (.newarray .boolean, 2)) (hp : pc + 2 = q) (hn : ¬ n < 0) (hN : n.toNatClampNeg = N') (hN9 : N' ≤ 1000) (hlt : g.1 < 1000) (k : AW μ d b1 b2 (am_gN g 2 N') q ls (.ref g.1 :: st) (am_row M g.1 (fun _ => 0)) (V) R Q) : AW μ d (b1 + 1) (b2 + N') g pc ls (.int n :: st) M V R Q := by
  subst hp
  intro p l e Rm s m args below meth c H locs cells slots mc ms n0 z sk D cy lo S h1 h2 h3 hR hS hL
  obtain ⟨hx, hb, hret, hml, hown, hts, hlk, hnm, hfr, hlc, hU⟩ := id S
  refine am_size h3 hR hS (fun hsz => ?_)
  refine va_newaK hx hb (atype := .boolean) (hts _ jm_aboolean) rfl hd rfl hn hN (by show N' * 1 ≤ _; omega) (by omega) (by omega) hsz fun H1 cA e1 z1 o1 hAr hNm => ?_
  have e9 : am_as z sk g.1 = z + g.1 := am_as_lt hlt
  have hcy : cA = cy 2 := by
    have h8 := (hU.1.2 2 (cy 2, .boolean) rfl).2
    exact Option.some.inj (hNm.symm.trans h8)
  subst hcy
  have hk := k p l e Rm s m args below meth c H1 locs (cells + 1) (slots + N') mc ms n0 z sk D cy lo S ⟨by omega, by omega⟩ h2 ⟨h3.1, by show cells + 1 + n0 = g.1 + 1; omega⟩ (am_push hR hsz hlt (fun i hi => by simp [am_row, Nat.ne_of_lt hi]) (fun i hi => by simp [am_row, Nat.ne_of_lt hi]) (fun i hi => by simp [am_row, Nat.ne_of_lt hi]) (by rw [hsz]; exact o1) (by
    rw [am_ce_2 (by simp [am_gN])]
    show H1[z + g.1]? = some (vp_cell _ _)
    rw [e1]
    simp only [am_row, am_gN, if_true]
    rfl)) (am_S_push hS (by omega) (by rw [hsz]; exact o1)) hL
  rw [show ((Value.ref g.1 :: st).map (am_cv (am_as z sk))) = .ref (z + g.1) :: st.map (am_cv (am_as z sk)) by rw [← e9]; rfl] at hk
  exact hk

theorem aw_newJ (q : Nat) {n : Int32} {N' : Nat} (hd : decode μ.2.1 pc = .ok (.newarray .long, 2)) (hp : pc + 2 = q) (hn : ¬ n < 0) (hN : n.toNatClampNeg = N') (hN9 : N' ≤ 1000) (hlt : g.1 < 1000) (k : AW μ d b1 b2 (am_gN g 1 N') q ls (.ref g.1 :: st) (M) (am_row V g.1 (fun _ => 0)) R Q) : AW μ d (b1 + 1) (b2 + N') g pc ls (.int n :: st) M V R Q := by
  subst hp
  intro p l e Rm s m args below meth c H locs cells slots mc ms n0 z sk D cy lo S h1 h2 h3 hR hS hL
  obtain ⟨hx, hb, hret, hml, hown, hts, hlk, hnm, hfr, hlc, hU⟩ := id S
  refine am_size h3 hR hS (fun hsz => ?_)
  refine va_newaK hx hb (atype := .long) (hts _ jm_along) rfl hd rfl hn hN (by show N' * 8 ≤ _; omega) (by omega) (by omega) hsz fun H1 cA e1 z1 o1 hAr hNm => ?_
  have e9 : am_as z sk g.1 = z + g.1 := am_as_lt hlt
  have hcy : cA = cy 1 := by
    have h8 := (hU.1.2 1 (cy 1, .long) rfl).2
    exact Option.some.inj (hNm.symm.trans h8)
  subst hcy
  have hk := k p l e Rm s m args below meth c H1 locs (cells + 1) (slots + N') mc ms n0 z sk D cy lo S ⟨by omega, by omega⟩ h2 ⟨h3.1, by show cells + 1 + n0 = g.1 + 1; omega⟩ (am_push hR hsz hlt (fun i hi => by simp [am_row, Nat.ne_of_lt hi]) (fun i hi => by simp [am_row, Nat.ne_of_lt hi]) (fun i hi => by simp [am_row, Nat.ne_of_lt hi]) (by rw [hsz]; exact o1) (by
    rw [am_ce_1 (by simp [am_gN])]
    show H1[z + g.1]? = some (vp_cell _ _)
    rw [e1]
    simp only [am_row, am_gN, if_true]
    rfl)) (am_S_push hS (by omega) (by rw [hsz]; exact o1)) hL
  rw [show ((Value.ref g.1 :: st).map (am_cv (am_as z sk))) = .ref (z + g.1) :: st.map (am_cv (am_as z sk)) by rw [← e9]; rfl] at hk
  exact hk

theorem aw_newA (q : Nat) {idx : Nat} {n : Int32} {N' : Nat} (hd : decode μ.2.1 pc = .ok (.anewarray idx, 3)) (hp : pc + 3 = q) (hw : am_nw μ.1.cls idx 6) (hn : ¬ n < 0) (hN : n.toNatClampNeg = N') (hN9 : N' ≤ 1000) (hlt : g.1 < 1000) (k : AW μ d b1 b2 (am_gN g 3 N') q ls (.ref g.1 :: st) M V (am_row R g.1 (fun _ => none)) Q) : AW μ d (b1 + 1) (b2 + N') g pc ls (.int n :: st) M V R Q := by
  subst hp
  intro p l e Rm s m args below meth c H locs cells slots mc ms n0 z sk D cy lo S h1 h2 h3 hR hS hL
  obtain ⟨hx, hb, hret, hml, hown, hts, hlk, hnm, hfr, hlc, hU⟩ := id S
  refine am_size h3 hR hS (fun hsz => ?_)
  subst hN
  refine W.anew (C := RX6) hx hb hown (hts _ hw.2.1) (va_AO.use hU.2.2.2) rfl hd rfl hn (by omega) (by omega) (by omega) fun cA kA comp f1 f2 f3 f4 => ?_
  generalize hH1 : H.push ({ cls := cA, slots := Array.replicate n.toNatClampNeg .null, vm := .none } : Cell) = H1
  have z1 : H1.size = H.size + 1 := by rw [← hH1, Array.size_push]
  have e1 : H1[H.size]? = some (arrV cA n.toNatClampNeg (fun _ => .null)) := by rw [← hH1, Array.getElem?_push_size, ← arrV_new]
  have o1 : ∀ q : Nat, q < H.size → H1[q]? = H[q]? := fun q hq => by rw [← hH1, Array.getElem?_push, if_neg (Nat.ne_of_lt hq)]
  have e9 : am_as z sk g.1 = z + g.1 := am_as_lt hlt
  have hcy : cA = cy 3 := by
    obtain ⟨kA', comp', g1, g2, g3, g4⟩ := (hU.1.2 3 (cy 3, .object RX6) rfl).2
    exact Option.some.inj (f1.symm.trans g4)
  subst hcy
  have hk := k p l e Rm s m args below meth c H1 locs (cells + 1) (slots + n.toNatClampNeg) mc ms n0 z sk D cy lo S ⟨by omega, by omega⟩ h2 ⟨h3.1, by show cells + 1 + n0 = g.1 + 1; omega⟩ (am_push hR hsz hlt (fun i hi => rfl) (fun i hi => rfl) (fun i hi => by simp [am_row, Nat.ne_of_lt hi]) o1 (by
    rw [am_ce_3 (by simp [am_gN])]
    show H1[z + g.1]? = some (vp_cell _ _)
    rw [← hsz, e1]
    simp only [am_row, am_gN, if_true]
    rfl)) (am_S_push hS z1 o1) hL
  rw [show ((Value.ref g.1 :: st).map (am_cv (am_as z sk))) = .ref H.size :: st.map (am_cv (am_as z sk)) by rw [hsz, ← e9]; rfl] at hk
  exact hk
/-- Object's constructor -/
theorem aw_obj (q : Nat) {idx r : Nat} (hd : decode μ.2.1 pc = .ok (.invokespecial idx, 3)) (hp : pc + 3 = q) (hlk : Cond.methodLink μ.1.cls idx objectInit ∈ am_g) (hd1 : 1 ≤ d) (hst : (st.map fun v => v.category).sum ≤ 8) (k : AW μ d b1 b2 g q ls st M V R Q) : AW μ d b1 b2 g pc ls (.ref r :: st) M V R Q := by
  subst hp
  intro p l e Rm s m args below meth c H locs cells slots mc ms n0 z sk D cy lo S h1 h2 h3 hR hS hL
  obtain ⟨hx, hb, hret, hml, hown, hts, -, hnm, hfr, hlc, hU⟩ := id S
  have hcs : ((st.map (am_cv (am_as z sk))).map fun v => v.category).sum = (st.map fun v => v.category).sum := by
    rw [List.map_map]
    congr 1
    exact List.map_congr_left (fun v _ => am_cv_cat _ v)
  exact W.objInit hx hb hown (hts _ hlk) (hts _ jm_obj.1) (hts _ jm_obj.2) rfl (by rw [hml]; exact hL.1) rfl hd (Nat.le_trans hd1 hfr) (by show 2 * 0 + _ + 12 ≤ _; rw [hcs]; omega) (k p l e Rm s m args below meth c H locs cells slots mc ms n0 z sk D cy lo S h1 h2 h3 hR hS hL)
/-- returns -/
def am_nr (μ : am_M) (x : Int32) : Prop := ∃ ty, μ.2.2.2 = some ty ∧ narrow ty (.int x) = .int x
theorem aw_iret {x : Int32} (hd : decode μ.2.1 pc = .ok (.ireturn, 1)) (hn : am_nr μ x) (hQ : Q (some (.int x)) g M V R) : AW μ d 0 b2 g pc ls [.int x] M V R Q := by
  intro p l e Rm s m args below meth c H locs cells slots mc ms n0 z sk D cy lo S h1 h2 h3 hR hS hL
  obtain ⟨hx, hb, hret, hml, hown, hts, hlk, hnm, hfr, hlc, hU⟩ := id S
  obtain ⟨ty, hty, hnr⟩ := hn
  refine W.widen (k := mc) (n := ms) (by omega) (by omega) ?_
  exact W.zret hx hb (hret.trans hty) hnr (fun t ht hW => ⟨⟨some (.int x), g, M, V, R, rfl, by omega, hQ, by rw [ht]; exact hR⟩, hS.F ht⟩) hS.2.2 hd hlk
theorem aw_vret (hd : decode μ.2.1 pc = .ok (.return_, 1)) (hn : μ.2.2.2 = none) (hQ : Q none g M V R) : AW μ d 0 b2 g pc ls [] M V R Q := by
  intro p l e Rm s m args below meth c H locs cells slots mc ms n0 z sk D cy lo S h1 h2 h3 hR hS hL
  obtain ⟨hx, hb, hret, hml, hown, hts, hlk, hnm, hfr, hlc, hU⟩ := id S
  refine W.widen (k := mc) (n := ms) (by omega) (by omega) ?_
  exact W.vret hx hb (hret.trans hn) (fun t ht hW => ⟨⟨none, g, M, V, R, rfl, by omega, hQ, by rw [ht]; exact hR⟩, hS.F ht⟩) hS.2.2 hd hlk
/-- behind a call -/
theorem am_after {p : Program} {l : Launch} {e : Env} {Rm : Room} {s : State} {m : MethodId} {args : Array Value} {below : List Frame} {meth : Method} {c : Code} {H : Heap} {locs : List Loc} {cells slots mc ms n1 z : Nat} {sk : Nat → Nat} {D : va_G} {cy : Nat → ClassId} {Z : State → Prop} {lo : Array Slot} {st0 rest : List Value} {a : Array Value} {Q' : am_Po}
    (hr : va_Run p l e Rm s m args below meth c H locs cells slots mc ms (F0 m pc lo st0) rest (am_Q z sk D cy n1 Q' a) (am_A z)) (hS : va_S (am_A z) s.heap H locs)
    (kk : ∀ (v : Option Value) (g' : am_G) (M' : am_I) (V' : am_J) (R' : am_O) (H1 : Heap) (locs1 : List Loc), g'.1 = n1 → Q' v g' M' V' R' → am_R z sk D cy g' M' V' R' H1 → va_S (am_A z) s.heap H1 locs1 → W p l e Rm s m args below meth c H1 locs1 (cells + mc) (slots + ms) Z (F0 m (pc + 3) lo ((v.map (am_cv (am_as z sk))).toList ++ rest))) : W p l e Rm s m args below meth c H locs cells slots Z (F0 m pc lo st0) := by
  intro T hT X
  obtain ⟨v, st₀, t, T', L, h0, X', hL, e1, e2, ⟨⟨w, g', M', V', R', hv, hg, hq, hR'⟩, hz, hk⟩, sp⟩ := hr T hT X
  cases hv
  rw [h0] at hz hk
  obtain ⟨t2, a1, b1⟩ := kk w g' M' V' R' T'.heap (locs ++ L) hg hq (by rw [e1]; exact hR')
    ⟨Nat.le_trans hS.1 (by rw [e1]; exact hz), fun q g1 g2 => by rw [e1, hk q (Nat.lt_of_lt_of_le g1 hS.1) g2]; exact hS.2.1 q g1 g2, fun q hq => by
      rcases List.mem_append.mp hq with h | h
      · exact hS.2.2 q h
      · exact hL q h⟩ T' rfl X'
  exact ⟨t2, sp t2 a1, b1⟩
theorem am_blind {z : Nat} {sk : Nat → Nat} {D : va_G} {cy : Nat → ClassId} {av : List Value} : FrameBlind (am_P z sk D cy av g M V R) := fun a U gf mk q => ⟨q.1, q.2.1.calling, q.2.2.1, q.2.2.2⟩
theorem am_good {μ' : am_M} (h : Cond.code μ'.1 μ'.2.1 μ'.2.2.1 μ'.2.2.2 ∈ am_g) : GoodIn am_g (am_w μ') := by
  intro w hw
  rcases List.mem_cons.mp hw with rfl | hw
  · exact ⟨h, good_of_word (am_ga h).2⟩
  · exact ⟨hw, good_of_word (am_ga hw).2⟩
theorem am_cat {f : Nat → Nat} (st : List Value) : ((st.map (am_cv f)).map fun v => v.category).sum = (st.map fun v => v.category).sum := by
  rw [List.map_map]
  congr 1
  exact List.map_congr_left (fun v _ => am_cv_cat _ v)
theorem am_otl {f : Nat → Nat} (v : Option Value) (rest : List Value) : (v.map (am_cv f)).toList ++ rest.map (am_cv f) = (v.toList ++ rest).map (am_cv f) := by cases v <;> rfl

theorem aw_callV (q : Nat) {μ' : am_M} {idx n d' mc' ms' : Nat} {c0 : Nat} {r : Nat} {As rest : List Value} {Q' : am_Po} (hd : decode μ.2.1 pc = .ok (.invokevirtual idx, 3)) (hp : pc + 3 = q) (hlk : am_lk μ.1.cls idx μ'.1) (hm : am_mV μ' n c0) (ho : am_ob g r c0) (hC9 : Ct μ' d' mc' ms' (.ref r :: As) g M V R Q') (hn : As.length = n) (hst : st = As.reverse ++ .ref r :: rest) (hd9 : d' + 1 ≤ d) (hct : (rest.map fun v => v.category).sum ≤ 8)
    (k : ∀ (v : Option Value) (g' : am_G) (M' : am_I) (V' : am_J) (R' : am_O), g'.1 = g.1 + mc' → Q' v g' M' V' R' → AW μ d b1 b2 g' q ls (v.toList ++ rest) M' V' R' Q) : AW μ d (b1 + mc') (b2 + ms') g pc ls st M V R Q := by
  subst hp
  intro p l e Rm s m args below meth c H locs cells slots mc ms n0 z sk D cy lo S h1 h2 h3 hR hS hL
  obtain ⟨hx, hb, hret, hml, hown, hts, hlks, hnm, hfr, hlc, hU⟩ := id S
  obtain ⟨⟨hpl, hcw, hin9, hdd, hml9⟩, hc9, hC, hinst, hsel⟩ := hm
  refine am_size h3 hR hS (fun hsz => ?_)
  have hpre : ∀ U : State, U.heap = H → s.WarmedH U.vm → am_P z sk D cy (.ref r :: As) g M V R (((.ref r :: As)).map (am_cv (am_as z sk))).toArray U := fun U hUh hW => ⟨rfl, hU.warm hW (by rw [hUh]; exact hS), by rw [hUh]; exact hsz, by rw [hUh]; exact hR⟩
  have hg9 := am_good hcw
  have hR9 : (am_rm d' mc' ms').frames + 1 ≤ Rm.frames ∧ 8 + (μ'.2.2.1 + 11) + (am_rm d' mc' ms').locals ≤ Rm.locals := ⟨Nat.le_trans hd9 hfr, by show 8 + (μ'.2.2.1 + 11) + 64 * d' ≤ Rm.locals; omega⟩
  have e9 : am_as z sk r = z + r := am_as_lt (Nat.lt_of_lt_of_le ho.1 hR.1)
  have hrec := va_recv hU.1 hR.2 (am_cl c0 hc9) (by have he := am_get (z := z) (f := am_as z sk) (cy := cy) (M := M) (V := V) (R := R) ho.1; rw [am_ce_ob ho.2] at he; exact he)
  have hrec2 : ∃ cell : Cell, H[am_as z sk r]? = some cell ∧ cell.vm.isStatics = false ∧ s.vm.findClass (am_C c0) = some cell.cls := by rw [e9]; exact hrec
  have hsel2 : (Cond.selects (am_C c0) μ'.1 μ'.1).before args s = true := by rw [← hC]; exact hts _ hsel
  rcases hlk with hl | ⟨host, hl⟩
  · refine am_after (va_runV (C := am_C c0) (b := am_as z sk r) (As := As.map (am_cv (am_as z sk))) (rest := rest.map (am_cv (am_as z sk))) ⟨hx, hb, hml, hown, hts⟩ (hC9 l z sk D cy) ⟨callB_of n hts hg9 rfl rfl rfl (hts _ hin9) (hts _ hl) hdd hR9, hts _ hinst, hsel2⟩ ⟨am_blind, hrec2, hpre⟩ rfl (by rw [List.length_map]; exact hn) hL.1 (by rw [hst]; simp only [List.map_append, List.map_reverse, List.map_cons]; rfl) (by show 2 * 0 + _ ≤ 8; rw [am_cat]; omega) hd ⟨by omega, by omega⟩) hS (fun v g' M' V' R' H1 locs1 hg hq hR1 hS1 => ?_) <;>
    · rw [am_otl]
      exact k v g' M' V' R' hg hq p l e Rm s m args below meth c H1 locs1 (cells + mc') (slots + ms') mc ms n0 z sk D cy lo S ⟨by omega, by omega⟩ h2 ⟨h3.1, by omega⟩ hR1 hS1 hL
  · refine am_after (va_runVN (C := am_C c0) (b := am_as z sk r) (As := As.map (am_cv (am_as z sk))) (rest := rest.map (am_cv (am_as z sk))) ⟨hx, hb, hml, hown, hts⟩ (hC9 l z sk D cy) ⟨va_cnB n hts hg9 rfl rfl rfl (hU.2.1 _ hl) (hts _ hin9) hdd hR9, hts _ hinst, hsel2⟩ ⟨am_blind, hrec2, hpre⟩ rfl (by rw [List.length_map]; exact hn) hL.1 (by rw [hst]; simp only [List.map_append, List.map_reverse, List.map_cons]; rfl) (by show 2 * 0 + _ ≤ 8; rw [am_cat]; omega) hd ⟨by omega, by omega⟩) hS (fun v g' M' V' R' H1 locs1 hg hq hR1 hS1 => ?_) <;>
    · rw [am_otl]
      exact k v g' M' V' R' hg hq p l e Rm s m args below meth c H1 locs1 (cells + mc') (slots + ms') mc ms n0 z sk D cy lo S ⟨by omega, by omega⟩ h2 ⟨h3.1, by omega⟩ hR1 hS1 hL
theorem aw_callS (q : Nat) {μ' : am_M} {idx n d' mc' ms' : Nat}   {As rest : List Value} {Q' : am_Po} (hd : decode μ.2.1 pc = .ok (.invokestatic idx, 3)) (hp : pc + 3 = q) (hlk : am_lk μ.1.cls idx μ'.1) (hm : am_mS μ' n) (hC9 : Ct μ' d' mc' ms' As g M V R Q') (hn : As.length = n) (hst : st = As.reverse ++ rest) (hd9 : d' + 1 ≤ d) (hct : (rest.map fun v => v.category).sum ≤ 8)
    (k : ∀ (v : Option Value) (g' : am_G) (M' : am_I) (V' : am_J) (R' : am_O), g'.1 = g.1 + mc' → Q' v g' M' V' R' → AW μ d b1 b2 g' q ls (v.toList ++ rest) M' V' R' Q) : AW μ d (b1 + mc') (b2 + ms') g pc ls st M V R Q := by
  subst hp
  intro p l e Rm s m args below meth c H locs cells slots mc ms n0 z sk D cy lo S h1 h2 h3 hR hS hL
  obtain ⟨hx, hb, hret, hml, hown, hts, hlks, hnm, hfr, hlc, hU⟩ := id S
  obtain ⟨⟨hpl, hcw, hin9, hdd, hml9⟩, hstat⟩ := hm
  refine am_size h3 hR hS (fun hsz => ?_)
  have hpre : ∀ U : State, U.heap = H → s.WarmedH U.vm → am_P z sk D cy As g M V R ((As).map (am_cv (am_as z sk))).toArray U := fun U hUh hW => ⟨rfl, hU.warm hW (by rw [hUh]; exact hS), by rw [hUh]; exact hsz, by rw [hUh]; exact hR⟩
  have hg9 := am_good hcw
  have hR9 : (am_rm d' mc' ms').frames + 1 ≤ Rm.frames ∧ 8 + (μ'.2.2.1 + 11) + (am_rm d' mc' ms').locals ≤ Rm.locals := ⟨Nat.le_trans hd9 hfr, by show 8 + (μ'.2.2.1 + 11) + 64 * d' ≤ Rm.locals; omega⟩
  rcases hlk with hl | ⟨host, hl⟩
  · refine am_after (va_runS (As := As.map (am_cv (am_as z sk))) (rest := rest.map (am_cv (am_as z sk))) ⟨hx, hb, hml, hown, hts⟩ (hC9 l z sk D cy) ⟨callB_of n hts hg9 rfl rfl rfl (hts _ hin9) (hts _ hl) hdd hR9, hts _ hstat⟩ ⟨am_blind, hpre⟩ rfl (by rw [List.length_map]; exact hn) hL.1 (by rw [hst]; simp only [List.map_append, List.map_reverse]) (by show 2 * 0 + _ ≤ 8; rw [am_cat]; omega) hd ⟨by omega, by omega⟩) hS (fun v g' M' V' R' H1 locs1 hg hq hR1 hS1 => ?_) <;>
    · rw [am_otl]
      exact k v g' M' V' R' hg hq p l e Rm s m args below meth c H1 locs1 (cells + mc') (slots + ms') mc ms n0 z sk D cy lo S ⟨by omega, by omega⟩ h2 ⟨h3.1, by omega⟩ hR1 hS1 hL
  · refine am_after (va_runSN (As := As.map (am_cv (am_as z sk))) (rest := rest.map (am_cv (am_as z sk))) ⟨hx, hb, hml, hown, hts⟩ (hC9 l z sk D cy) ⟨va_cnB n hts hg9 rfl rfl rfl (hU.2.1 _ hl) (hts _ hin9) hdd hR9, hts _ hstat, trivial⟩ ⟨am_blind, hpre⟩ rfl (by rw [List.length_map]; exact hn) hL.1 (by rw [hst]; simp only [List.map_append, List.map_reverse]) (by show 2 * 0 + _ ≤ 8; rw [am_cat]; omega) hd ⟨by omega, by omega⟩) hS (fun v g' M' V' R' H1 locs1 hg hq hR1 hS1 => ?_) <;>
    · rw [am_otl]
      exact k v g' M' V' R' hg hq p l e Rm s m args below meth c H1 locs1 (cells + mc') (slots + ms') mc ms n0 z sk D cy lo S ⟨by omega, by omega⟩ h2 ⟨h3.1, by omega⟩ hR1 hS1 hL
theorem aw_callI (q : Nat) {μ' : am_M} {idx n d' mc' ms' : Nat}  {r : Nat} {As rest : List Value} {Q' : am_Po} (hd : decode μ.2.1 pc = .ok (.invokespecial idx, 3)) (hp : pc + 3 = q) (hlk : am_lk μ.1.cls idx μ'.1) (hm : am_mI μ' n) (ho : r < g.1) (hC9 : Ct μ' d' mc' ms' (.ref r :: As) g M V R Q') (hn : As.length = n) (hst : st = As.reverse ++ .ref r :: rest) (hd9 : d' + 1 ≤ d) (hct : (rest.map fun v => v.category).sum ≤ 8)
    (k : ∀ (v : Option Value) (g' : am_G) (M' : am_I) (V' : am_J) (R' : am_O), g'.1 = g.1 + mc' → Q' v g' M' V' R' → AW μ d b1 b2 g' q ls (v.toList ++ rest) M' V' R' Q) : AW μ d (b1 + mc') (b2 + ms') g pc ls st M V R Q := by
  subst hp
  intro p l e Rm s m args below meth c H locs cells slots mc ms n0 z sk D cy lo S h1 h2 h3 hR hS hL
  obtain ⟨hx, hb, hret, hml, hown, hts, hlks, hnm, hfr, hlc, hU⟩ := id S
  obtain ⟨⟨hpl, hcw, hin9, hdd, hml9⟩, hnI, hrI, hinst⟩ := hm
  refine am_size h3 hR hS (fun hsz => ?_)
  have hpre : ∀ U : State, U.heap = H → s.WarmedH U.vm → am_P z sk D cy (.ref r :: As) g M V R (((.ref r :: As)).map (am_cv (am_as z sk))).toArray U := fun U hUh hW => ⟨rfl, hU.warm hW (by rw [hUh]; exact hS), by rw [hUh]; exact hsz, by rw [hUh]; exact hR⟩
  have hg9 := am_good hcw
  have hR9 : (am_rm d' mc' ms').frames + 1 ≤ Rm.frames ∧ 8 + (μ'.2.2.1 + 11) + (am_rm d' mc' ms').locals ≤ Rm.locals := ⟨Nat.le_trans hd9 hfr, by show 8 + (μ'.2.2.1 + 11) + 64 * d' ≤ Rm.locals; omega⟩
  have e9 : am_as z sk r = z + r := am_as_lt (Nat.lt_of_lt_of_le ho hR.1)
  have hw9 : am_w μ' = Cond.code μ'.1 μ'.2.1 μ'.2.2.1 none :: am_g := by rw [← hrI]; rfl
  rcases hlk with hl | ⟨host, hl⟩
  · refine am_after (va_runI (b := am_as z sk r) (As := As.map (am_cv (am_as z sk))) (rest := rest.map (am_cv (am_as z sk))) ⟨hx, hb, hml, hown, hts⟩ (hC9 l z sk D cy) ⟨callB_of n hts hg9 hw9 rfl rfl (hts _ hin9) (hts _ hl) hdd hR9, hnI, hts _ hinst⟩ ⟨am_blind, hpre⟩ rfl (by rw [List.length_map]; exact hn) hL.1 (by rw [hst]; simp only [List.map_append, List.map_reverse, List.map_cons]; rfl) (by show 2 * 0 + _ ≤ 8; rw [am_cat]; omega) hd ⟨by omega, by omega⟩) hS (fun v g' M' V' R' H1 locs1 hg hq hR1 hS1 => ?_) <;>
    · rw [am_otl]
      exact k v g' M' V' R' hg hq p l e Rm s m args below meth c H1 locs1 (cells + mc') (slots + ms') mc ms n0 z sk D cy lo S ⟨by omega, by omega⟩ h2 ⟨h3.1, by omega⟩ hR1 hS1 hL
  · refine am_after (va_runIN (b := am_as z sk r) (As := As.map (am_cv (am_as z sk))) (rest := rest.map (am_cv (am_as z sk))) ⟨hx, hb, hml, hown, hts⟩ (hC9 l z sk D cy) ⟨va_cnB n hts hg9 hw9 rfl rfl (hU.2.1 _ hl) (hts _ hin9) hdd hR9, hnI, hts _ hinst⟩ ⟨am_blind, hpre⟩ rfl (by rw [List.length_map]; exact hn) hL.1 (by rw [hst]; simp only [List.map_append, List.map_reverse, List.map_cons]; rfl) (by show 2 * 0 + _ ≤ 8; rw [am_cat]; omega) hd ⟨by omega, by omega⟩) hS (fun v g' M' V' R' H1 locs1 hg hq hR1 hS1 => ?_) <;>
    · rw [am_otl]
      exact k v g' M' V' R' hg hq p l e Rm s m args below meth c H1 locs1 (cells + mc') (slots + ms') mc ms n0 z sk D cy lo S ⟨by omega, by omega⟩ h2 ⟨h3.1, by omega⟩ hR1 hS1 hL
/-- a contract out of a walk -/
def am_ent (n : Nat) (av : List Value) (ls : List (Option Value)) : Prop := ls.length ≤ n ∧ (lg_sl av).length ≤ n ∧ ∀ (i : Nat) (v : Value), ls[i]? = some (some v) → (i, v) ∈ lv_args 0 av
theorem Ct.of {mc ms : Nat} {av : List Value} (hpl : plainName μ.1.cls = true) (hw : Cond.code μ.1 μ.2.1 μ.2.2.1 μ.2.2.2 ∈ am_g) (ls : List (Option Value)) (hl : ∀ f : Nat → Nat, am_ent μ.2.2.1 (av.map (am_cv f)) (ls.map (fun o => o.map (am_cv f)))) (k : AW μ d mc ms g 0 ls [] M V R Q) : Ct μ d mc ms av g M V R Q := by
  intro l z sk D cy
  refine Met.ofW (cc := μ.2.1) (maxL := μ.2.2.1) (ret := μ.2.2.2) hpl rfl ?_
  intro p e s m args below meth c s₁ B hml hv
  obtain ⟨rfl, hU, hsz, hR⟩ := hv
  have hts := atoms_spec (ws := am_w μ) B.pre
  have hown : s.vm.findClass μ.1.cls = some m.cls := findClass_of_methodNamed B.named
  obtain ⟨e1, e2, e3⟩ := hl (am_as z sk)
  have hl9 := lv_entry (av.map (am_cv (am_as z sk))) (n := μ.2.2.1) e2
  rw [lg_entry_eq]
  refine k p l e _ s m _ below meth c s.heap [] 0 0 mc ms g.1 z sk D cy _ ⟨B.exec, B.bytes, B.returns, hml, hown, fun w h => hts w (List.mem_cons_of_mem _ h), B.notSynchronized, (name_of_methodNamed B.named B.method).1, Nat.le_refl _, Nat.le_refl _, hU⟩ ⟨by omega, by omega⟩ ⟨Nat.le_refl _, Nat.le_refl _⟩ ⟨hsz, by omega⟩ hR va_S.rf ⟨hl9.1, hl9.2.1, fun n v hn => ?_⟩
  have h8 : (ls.map (fun o => o.map (am_cv (am_as z sk))))[n]? = some (some (am_cv (am_as z sk) v)) := by rw [List.getElem?_map, hn]; rfl
  exact hl9.2.2 _ (e3 n _ h8)
theorem Ct.weaken {mc ms : Nat} {av : List Value} {Q2 : am_Po} (h : Ct μ d mc ms av g M V R Q) (hq : ∀ v g' M' V' R', Q v g' M' V' R' → Q2 v g' M' V' R') : Ct μ d mc ms av g M V R Q2 := by
  intro l z sk D cy p e ha hc hk s m args below hf h1 h2 h3
  obtain ⟨k, o, a1, a2, a3, ⟨⟨v, g', M', V', R', q1, q2, q3, q4⟩, q5⟩, a5⟩ := h l z sk D cy p e ha hc hk s m args below hf h1 h2 h3
  exact ⟨k, o, a1, a2, a3, ⟨⟨v, g', M', V', R', q1, q2, hq _ _ _ _ _ q3, q4⟩, q5⟩, a5⟩
end AT
end
