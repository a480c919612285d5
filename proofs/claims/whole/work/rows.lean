section
-- ===== PART A: goes FIRST, ahead of the names: the tables' words, and 'selects' of the private methods out of them =====
/-- a private method of a class that the tables say can be made, by its rows of tables_1 -/
def lw_okq (q : MethodName × Nat) : Prop := (q.1.cls ≠ "java/lang/invoke/MethodHandle" ∧ q.1.cls ≠ "java/lang/invoke/VarHandle") ∧ Cond.instantiable q.1.cls q.2 ∈ tables_1 ∧ Cond.privateMethod q.1 ∈ tables_1 ∧ Cond.instanceMethod q.1 ∈ tables_1
theorem lw_p0 : lw_okq (⟨"HungPictures$Wall", "makeBare", "()V"⟩, 15) := ⟨⟨by decide +kernel, by decide +kernel⟩, List.mem_of_getElem? (i := 75) (by decide +kernel), List.mem_of_getElem? (i := 81) (by decide +kernel), List.mem_of_getElem? (i := 82) (by decide +kernel)⟩
theorem lw_p1 : lw_okq (⟨"HungPictures$Reader", "readInto", "(LHungPictures$Wall;[II)I"⟩, 6) := ⟨⟨by decide +kernel, by decide +kernel⟩, List.mem_of_getElem? (i := 26) (by decide +kernel), List.mem_of_getElem? (i := 308) (by decide +kernel), List.mem_of_getElem? (i := 309) (by decide +kernel)⟩
theorem lw_p2 : lw_okq (⟨"HungPictures$Tokens", "cut", "([II)V"⟩, 4) := ⟨⟨by decide +kernel, by decide +kernel⟩, List.mem_of_getElem? (i := 32) (by decide +kernel), List.mem_of_getElem? (i := 312) (by decide +kernel), List.mem_of_getElem? (i := 313) (by decide +kernel)⟩
theorem lw_p3 : lw_okq (⟨"HungPictures$Tokens", "add", "(III)V"⟩, 4) := ⟨⟨by decide +kernel, by decide +kernel⟩, List.mem_of_getElem? (i := 32) (by decide +kernel), List.mem_of_getElem? (i := 394) (by decide +kernel), List.mem_of_getElem? (i := 395) (by decide +kernel)⟩
theorem lw_p4 : lw_okq (⟨"HungPictures$Reader", "readToken", "()V"⟩, 6) := ⟨⟨by decide +kernel, by decide +kernel⟩, List.mem_of_getElem? (i := 26) (by decide +kernel), List.mem_of_getElem? (i := 402) (by decide +kernel), List.mem_of_getElem? (i := 403) (by decide +kernel)⟩
theorem lw_p5 : lw_okq (⟨"HungPictures$Reader", "readItem", "(LHungPictures$Wall;)Z"⟩, 6) := ⟨⟨by decide +kernel, by decide +kernel⟩, List.mem_of_getElem? (i := 26) (by decide +kernel), List.mem_of_getElem? (i := 406) (by decide +kernel), List.mem_of_getElem? (i := 407) (by decide +kernel)⟩
theorem lw_p6 : lw_okq (⟨"HungPictures$Reader", "readWall", "(LHungPictures$Wall;)Z"⟩, 6) := ⟨⟨by decide +kernel, by decide +kernel⟩, List.mem_of_getElem? (i := 26) (by decide +kernel), List.mem_of_getElem? (i := 410) (by decide +kernel), List.mem_of_getElem? (i := 411) (by decide +kernel)⟩
theorem lw_p7 : lw_okq (⟨"HungPictures$Reader", "readNumber", "(II)Z"⟩, 6) := ⟨⟨by decide +kernel, by decide +kernel⟩, List.mem_of_getElem? (i := 26) (by decide +kernel), List.mem_of_getElem? (i := 414) (by decide +kernel), List.mem_of_getElem? (i := 415) (by decide +kernel)⟩
theorem lw_p8 : lw_okq (⟨"HungPictures$Reader", "readPicture", "(LHungPictures$Wall;)Z"⟩, 6) := ⟨⟨by decide +kernel, by decide +kernel⟩, List.mem_of_getElem? (i := 26) (by decide +kernel), List.mem_of_getElem? (i := 418) (by decide +kernel), List.mem_of_getElem? (i := 419) (by decide +kernel)⟩
theorem lw_p9 : lw_okq (⟨"HungPictures$Wall", "addPicture", "(IIII)V"⟩, 15) := ⟨⟨by decide +kernel, by decide +kernel⟩, List.mem_of_getElem? (i := 75) (by decide +kernel), List.mem_of_getElem? (i := 422) (by decide +kernel), List.mem_of_getElem? (i := 423) (by decide +kernel)⟩
theorem lw_p10 : lw_okq (⟨"HungPictures$Reader", "readDoor", "(LHungPictures$Wall;)Z"⟩, 6) := ⟨⟨by decide +kernel, by decide +kernel⟩, List.mem_of_getElem? (i := 26) (by decide +kernel), List.mem_of_getElem? (i := 426) (by decide +kernel), List.mem_of_getElem? (i := 427) (by decide +kernel)⟩
theorem lw_p11 : lw_okq (⟨"HungPictures$Wall", "addDoor", "(II)V"⟩, 15) := ⟨⟨by decide +kernel, by decide +kernel⟩, List.mem_of_getElem? (i := 75) (by decide +kernel), List.mem_of_getElem? (i := 430) (by decide +kernel), List.mem_of_getElem? (i := 431) (by decide +kernel)⟩
theorem lw_p12 : lw_okq (⟨"HungPictures$Reader", "readHole", "(LHungPictures$Wall;)Z"⟩, 6) := ⟨⟨by decide +kernel, by decide +kernel⟩, List.mem_of_getElem? (i := 26) (by decide +kernel), List.mem_of_getElem? (i := 434) (by decide +kernel), List.mem_of_getElem? (i := 435) (by decide +kernel)⟩
theorem lw_p13 : lw_okq (⟨"HungPictures$Wall", "findHole", "(II)I"⟩, 15) := ⟨⟨by decide +kernel, by decide +kernel⟩, List.mem_of_getElem? (i := 75) (by decide +kernel), List.mem_of_getElem? (i := 438) (by decide +kernel), List.mem_of_getElem? (i := 439) (by decide +kernel)⟩
theorem lw_p14 : lw_okq (⟨"HungPictures$Wall", "addHole", "(II)V"⟩, 15) := ⟨⟨by decide +kernel, by decide +kernel⟩, List.mem_of_getElem? (i := 75) (by decide +kernel), List.mem_of_getElem? (i := 442) (by decide +kernel), List.mem_of_getElem? (i := 443) (by decide +kernel)⟩
theorem lw_p15 : lw_okq (⟨"HungPictures$Reader", "readSemicolon", "()Z"⟩, 6) := ⟨⟨by decide +kernel, by decide +kernel⟩, List.mem_of_getElem? (i := 26) (by decide +kernel), List.mem_of_getElem? (i := 446) (by decide +kernel), List.mem_of_getElem? (i := 447) (by decide +kernel)⟩
def lw_privs_1 : List (MethodName × Nat) := [(⟨"HungPictures$Wall", "makeBare", "()V"⟩, 15), (⟨"HungPictures$Reader", "readInto", "(LHungPictures$Wall;[II)I"⟩, 6), (⟨"HungPictures$Tokens", "cut", "([II)V"⟩, 4), (⟨"HungPictures$Tokens", "add", "(III)V"⟩, 4), (⟨"HungPictures$Reader", "readToken", "()V"⟩, 6), (⟨"HungPictures$Reader", "readItem", "(LHungPictures$Wall;)Z"⟩, 6), (⟨"HungPictures$Reader", "readWall", "(LHungPictures$Wall;)Z"⟩, 6), (⟨"HungPictures$Reader", "readNumber", "(II)Z"⟩, 6), (⟨"HungPictures$Reader", "readPicture", "(LHungPictures$Wall;)Z"⟩, 6), (⟨"HungPictures$Wall", "addPicture", "(IIII)V"⟩, 15), (⟨"HungPictures$Reader", "readDoor", "(LHungPictures$Wall;)Z"⟩, 6), (⟨"HungPictures$Wall", "addDoor", "(II)V"⟩, 15), (⟨"HungPictures$Reader", "readHole", "(LHungPictures$Wall;)Z"⟩, 6), (⟨"HungPictures$Wall", "findHole", "(II)I"⟩, 15), (⟨"HungPictures$Wall", "addHole", "(II)V"⟩, 15), (⟨"HungPictures$Reader", "readSemicolon", "()Z"⟩, 6)]
theorem lw_r1 : ∀ q ∈ lw_privs_1, lw_okq q := List.forall_mem_cons.mpr ⟨lw_p0, List.forall_mem_cons.mpr ⟨lw_p1, List.forall_mem_cons.mpr ⟨lw_p2, List.forall_mem_cons.mpr ⟨lw_p3, List.forall_mem_cons.mpr ⟨lw_p4, List.forall_mem_cons.mpr ⟨lw_p5, List.forall_mem_cons.mpr ⟨lw_p6, List.forall_mem_cons.mpr ⟨lw_p7, List.forall_mem_cons.mpr ⟨lw_p8, List.forall_mem_cons.mpr ⟨lw_p9, List.forall_mem_cons.mpr ⟨lw_p10, List.forall_mem_cons.mpr ⟨lw_p11, List.forall_mem_cons.mpr ⟨lw_p12, List.forall_mem_cons.mpr ⟨lw_p13, List.forall_mem_cons.mpr ⟨lw_p14, List.forall_mem_cons.mpr ⟨lw_p15, fun _ h => absurd h List.not_mem_nil⟩⟩⟩⟩⟩⟩⟩⟩⟩⟩⟩⟩⟩⟩⟩⟩
theorem lw_p16 : lw_okq (⟨"HungPictures", "remember", "()V"⟩, 12) := ⟨⟨by decide +kernel, by decide +kernel⟩, List.mem_of_getElem? (i := 18) (by decide +kernel), List.mem_of_getElem? (i := 450) (by decide +kernel), List.mem_of_getElem? (i := 451) (by decide +kernel)⟩
theorem lw_p17 : lw_okq (⟨"HungPictures$Past", "add", "(LHungPictures$Wall;)V"⟩, 2) := ⟨⟨by decide +kernel, by decide +kernel⟩, List.mem_of_getElem? (i := 164) (by decide +kernel), List.mem_of_getElem? (i := 454) (by decide +kernel), List.mem_of_getElem? (i := 455) (by decide +kernel)⟩
theorem lw_p18 : lw_okq (⟨"HungPictures$Past", "loseOldest", "()V"⟩, 2) := ⟨⟨by decide +kernel, by decide +kernel⟩, List.mem_of_getElem? (i := 164) (by decide +kernel), List.mem_of_getElem? (i := 458) (by decide +kernel), List.mem_of_getElem? (i := 459) (by decide +kernel)⟩
theorem lw_p19 : lw_okq (⟨"HungPictures$Wall", "copyFrom", "(LHungPictures$Wall;)V"⟩, 15) := ⟨⟨by decide +kernel, by decide +kernel⟩, List.mem_of_getElem? (i := 75) (by decide +kernel), List.mem_of_getElem? (i := 462) (by decide +kernel), List.mem_of_getElem? (i := 463) (by decide +kernel)⟩
theorem lw_p20 : lw_okq (⟨"HungPictures$Wall", "hasPicture", "(I)Z"⟩, 15) := ⟨⟨by decide +kernel, by decide +kernel⟩, List.mem_of_getElem? (i := 75) (by decide +kernel), List.mem_of_getElem? (i := 475) (by decide +kernel), List.mem_of_getElem? (i := 476) (by decide +kernel)⟩
theorem lw_p21 : lw_okq (⟨"HungPictures$Wall", "isUp", "(I)Z"⟩, 15) := ⟨⟨by decide +kernel, by decide +kernel⟩, List.mem_of_getElem? (i := 75) (by decide +kernel), List.mem_of_getElem? (i := 479) (by decide +kernel), List.mem_of_getElem? (i := 480) (by decide +kernel)⟩
theorem lw_p22 : lw_okq (⟨"HungPictures$Wall", "isFreeFor", "(II)Z"⟩, 15) := ⟨⟨by decide +kernel, by decide +kernel⟩, List.mem_of_getElem? (i := 75) (by decide +kernel), List.mem_of_getElem? (i := 484) (by decide +kernel), List.mem_of_getElem? (i := 485) (by decide +kernel)⟩
theorem lw_p23 : lw_okq (⟨"HungPictures$Wall", "fits", "(II)Z"⟩, 15) := ⟨⟨by decide +kernel, by decide +kernel⟩, List.mem_of_getElem? (i := 75) (by decide +kernel), List.mem_of_getElem? (i := 488) (by decide +kernel), List.mem_of_getElem? (i := 489) (by decide +kernel)⟩
theorem lw_p24 : lw_okq (⟨"HungPictures$Wall", "isApartFromAll", "(II)Z"⟩, 15) := ⟨⟨by decide +kernel, by decide +kernel⟩, List.mem_of_getElem? (i := 75) (by decide +kernel), List.mem_of_getElem? (i := 492) (by decide +kernel), List.mem_of_getElem? (i := 493) (by decide +kernel)⟩
theorem lw_p25 : lw_okq (⟨"HungPictures$Wall", "hasHoleFor", "(II)Z"⟩, 15) := ⟨⟨by decide +kernel, by decide +kernel⟩, List.mem_of_getElem? (i := 75) (by decide +kernel), List.mem_of_getElem? (i := 496) (by decide +kernel), List.mem_of_getElem? (i := 497) (by decide +kernel)⟩
theorem lw_p26 : lw_okq (⟨"HungPictures$Wall", "hookX", "(II)I"⟩, 15) := ⟨⟨by decide +kernel, by decide +kernel⟩, List.mem_of_getElem? (i := 75) (by decide +kernel), List.mem_of_getElem? (i := 500) (by decide +kernel), List.mem_of_getElem? (i := 501) (by decide +kernel)⟩
theorem lw_p27 : lw_okq (⟨"HungPictures$Wall", "hookY", "(I)I"⟩, 15) := ⟨⟨by decide +kernel, by decide +kernel⟩, List.mem_of_getElem? (i := 75) (by decide +kernel), List.mem_of_getElem? (i := 504) (by decide +kernel), List.mem_of_getElem? (i := 505) (by decide +kernel)⟩
theorem lw_p28 : lw_okq (⟨"HungPictures$Wall", "putUp", "(II)V"⟩, 15) := ⟨⟨by decide +kernel, by decide +kernel⟩, List.mem_of_getElem? (i := 75) (by decide +kernel), List.mem_of_getElem? (i := 509) (by decide +kernel), List.mem_of_getElem? (i := 510) (by decide +kernel)⟩
theorem lw_p29 : lw_okq (⟨"HungPictures$Wall", "hasHole", "(I)Z"⟩, 15) := ⟨⟨by decide +kernel, by decide +kernel⟩, List.mem_of_getElem? (i := 75) (by decide +kernel), List.mem_of_getElem? (i := 523) (by decide +kernel), List.mem_of_getElem? (i := 524) (by decide +kernel)⟩
theorem lw_p30 : lw_okq (⟨"HungPictures$Wall", "findPictureOn", "(I)I"⟩, 15) := ⟨⟨by decide +kernel, by decide +kernel⟩, List.mem_of_getElem? (i := 75) (by decide +kernel), List.mem_of_getElem? (i := 527) (by decide +kernel), List.mem_of_getElem? (i := 528) (by decide +kernel)⟩
theorem lw_p31 : lw_okq (⟨"HungPictures$Wall", "removeHole", "(I)V"⟩, 15) := ⟨⟨by decide +kernel, by decide +kernel⟩, List.mem_of_getElem? (i := 75) (by decide +kernel), List.mem_of_getElem? (i := 532) (by decide +kernel), List.mem_of_getElem? (i := 533) (by decide +kernel)⟩
def lw_privs_2 : List (MethodName × Nat) := [(⟨"HungPictures", "remember", "()V"⟩, 12), (⟨"HungPictures$Past", "add", "(LHungPictures$Wall;)V"⟩, 2), (⟨"HungPictures$Past", "loseOldest", "()V"⟩, 2), (⟨"HungPictures$Wall", "copyFrom", "(LHungPictures$Wall;)V"⟩, 15), (⟨"HungPictures$Wall", "hasPicture", "(I)Z"⟩, 15), (⟨"HungPictures$Wall", "isUp", "(I)Z"⟩, 15), (⟨"HungPictures$Wall", "isFreeFor", "(II)Z"⟩, 15), (⟨"HungPictures$Wall", "fits", "(II)Z"⟩, 15), (⟨"HungPictures$Wall", "isApartFromAll", "(II)Z"⟩, 15), (⟨"HungPictures$Wall", "hasHoleFor", "(II)Z"⟩, 15), (⟨"HungPictures$Wall", "hookX", "(II)I"⟩, 15), (⟨"HungPictures$Wall", "hookY", "(I)I"⟩, 15), (⟨"HungPictures$Wall", "putUp", "(II)V"⟩, 15), (⟨"HungPictures$Wall", "hasHole", "(I)Z"⟩, 15), (⟨"HungPictures$Wall", "findPictureOn", "(I)I"⟩, 15), (⟨"HungPictures$Wall", "removeHole", "(I)V"⟩, 15)]
theorem lw_r2 : ∀ q ∈ lw_privs_2, lw_okq q := List.forall_mem_cons.mpr ⟨lw_p16, List.forall_mem_cons.mpr ⟨lw_p17, List.forall_mem_cons.mpr ⟨lw_p18, List.forall_mem_cons.mpr ⟨lw_p19, List.forall_mem_cons.mpr ⟨lw_p20, List.forall_mem_cons.mpr ⟨lw_p21, List.forall_mem_cons.mpr ⟨lw_p22, List.forall_mem_cons.mpr ⟨lw_p23, List.forall_mem_cons.mpr ⟨lw_p24, List.forall_mem_cons.mpr ⟨lw_p25, List.forall_mem_cons.mpr ⟨lw_p26, List.forall_mem_cons.mpr ⟨lw_p27, List.forall_mem_cons.mpr ⟨lw_p28, List.forall_mem_cons.mpr ⟨lw_p29, List.forall_mem_cons.mpr ⟨lw_p30, List.forall_mem_cons.mpr ⟨lw_p31, fun _ h => absurd h List.not_mem_nil⟩⟩⟩⟩⟩⟩⟩⟩⟩⟩⟩⟩⟩⟩⟩⟩
theorem lw_p32 : lw_okq (⟨"HungPictures$Wall", "takeAllDown", "()V"⟩, 15) := ⟨⟨by decide +kernel, by decide +kernel⟩, List.mem_of_getElem? (i := 75) (by decide +kernel), List.mem_of_getElem? (i := 540) (by decide +kernel), List.mem_of_getElem? (i := 541) (by decide +kernel)⟩
theorem lw_p33 : lw_okq (⟨"HungPictures$Past", "giveLatestTo", "(LHungPictures$Wall;)Z"⟩, 2) := ⟨⟨by decide +kernel, by decide +kernel⟩, List.mem_of_getElem? (i := 164) (by decide +kernel), List.mem_of_getElem? (i := 548) (by decide +kernel), List.mem_of_getElem? (i := 549) (by decide +kernel)⟩
theorem lw_p34 : lw_okq (⟨"HungPictures$Wall", "hasDoor", "(I)Z"⟩, 15) := ⟨⟨by decide +kernel, by decide +kernel⟩, List.mem_of_getElem? (i := 75) (by decide +kernel), List.mem_of_getElem? (i := 566) (by decide +kernel), List.mem_of_getElem? (i := 567) (by decide +kernel)⟩
theorem lw_p35 : lw_okq (⟨"HungPictures$Wall", "momentNow", "()I"⟩, 15) := ⟨⟨by decide +kernel, by decide +kernel⟩, List.mem_of_getElem? (i := 75) (by decide +kernel), List.mem_of_getElem? (i := 574) (by decide +kernel), List.mem_of_getElem? (i := 575) (by decide +kernel)⟩
theorem lw_p36 : lw_okq (⟨"HungPictures$Wall", "momentAt", "(II)I"⟩, 15) := ⟨⟨by decide +kernel, by decide +kernel⟩, List.mem_of_getElem? (i := 75) (by decide +kernel), List.mem_of_getElem? (i := 578) (by decide +kernel), List.mem_of_getElem? (i := 579) (by decide +kernel)⟩
theorem lw_p37 : lw_okq (⟨"HungPictures$Row", "search", "(LHungPictures$Wall;)V"⟩, 14) := ⟨⟨by decide +kernel, by decide +kernel⟩, List.mem_of_getElem? (i := 181) (by decide +kernel), List.mem_of_getElem? (i := 589) (by decide +kernel), List.mem_of_getElem? (i := 590) (by decide +kernel)⟩
theorem lw_p38 : lw_okq (⟨"HungPictures$Row", "markPlaces", "(LHungPictures$Wall;I)V"⟩, 14) := ⟨⟨by decide +kernel, by decide +kernel⟩, List.mem_of_getElem? (i := 181) (by decide +kernel), List.mem_of_getElem? (i := 593) (by decide +kernel), List.mem_of_getElem? (i := 594) (by decide +kernel)⟩
theorem lw_p39 : lw_okq (⟨"HungPictures$Row", "tryAllGaps", "(LHungPictures$Wall;I)V"⟩, 14) := ⟨⟨by decide +kernel, by decide +kernel⟩, List.mem_of_getElem? (i := 181) (by decide +kernel), List.mem_of_getElem? (i := 601) (by decide +kernel), List.mem_of_getElem? (i := 602) (by decide +kernel)⟩
theorem lw_p40 : lw_okq (⟨"HungPictures$Row", "takeIfBetter", "(II)V"⟩, 14) := ⟨⟨by decide +kernel, by decide +kernel⟩, List.mem_of_getElem? (i := 181) (by decide +kernel), List.mem_of_getElem? (i := 609) (by decide +kernel), List.mem_of_getElem? (i := 610) (by decide +kernel)⟩
theorem lw_p41 : lw_okq (⟨"HungPictures$Row", "answer", "(I)I"⟩, 14) := ⟨⟨by decide +kernel, by decide +kernel⟩, List.mem_of_getElem? (i := 181) (by decide +kernel), List.mem_of_getElem? (i := 617) (by decide +kernel), List.mem_of_getElem? (i := 618) (by decide +kernel)⟩
theorem lw_p42 : lw_okq (⟨"HungPictures$Row", "pictureAt", "(I)I"⟩, 14) := ⟨⟨by decide +kernel, by decide +kernel⟩, List.mem_of_getElem? (i := 181) (by decide +kernel), List.mem_of_getElem? (i := 621) (by decide +kernel), List.mem_of_getElem? (i := 622) (by decide +kernel)⟩
theorem lw_p43 : lw_okq (⟨"HungPictures", "countPlaces", "(I)I"⟩, 12) := ⟨⟨by decide +kernel, by decide +kernel⟩, List.mem_of_getElem? (i := 18) (by decide +kernel), List.mem_of_getElem? (i := 629) (by decide +kernel), List.mem_of_getElem? (i := 630) (by decide +kernel)⟩
theorem lw_p44 : lw_okq (⟨"HungPictures", "leastPlace", "(IZ)I"⟩, 12) := ⟨⟨by decide +kernel, by decide +kernel⟩, List.mem_of_getElem? (i := 18) (by decide +kernel), List.mem_of_getElem? (i := 633) (by decide +kernel), List.mem_of_getElem? (i := 634) (by decide +kernel)⟩
theorem lw_p45 : lw_okq (⟨"HungPictures", "calmestPlace", "(I)I"⟩, 12) := ⟨⟨by decide +kernel, by decide +kernel⟩, List.mem_of_getElem? (i := 18) (by decide +kernel), List.mem_of_getElem? (i := 637) (by decide +kernel), List.mem_of_getElem? (i := 638) (by decide +kernel)⟩
theorem lw_p46 : lw_okq (⟨"HungPictures$Crowd", "largestSet", "(LHungPictures$Wall;)I"⟩, 1) := ⟨⟨by decide +kernel, by decide +kernel⟩, List.mem_of_getElem? (i := 231) (by decide +kernel), List.mem_of_getElem? (i := 646) (by decide +kernel), List.mem_of_getElem? (i := 647) (by decide +kernel)⟩
theorem lw_p47 : lw_okq (⟨"HungPictures$Crowd", "leastEnd", "(LHungPictures$Wall;I)I"⟩, 1) := ⟨⟨by decide +kernel, by decide +kernel⟩, List.mem_of_getElem? (i := 231) (by decide +kernel), List.mem_of_getElem? (i := 650) (by decide +kernel), List.mem_of_getElem? (i := 651) (by decide +kernel)⟩
def lw_privs_3 : List (MethodName × Nat) := [(⟨"HungPictures$Wall", "takeAllDown", "()V"⟩, 15), (⟨"HungPictures$Past", "giveLatestTo", "(LHungPictures$Wall;)Z"⟩, 2), (⟨"HungPictures$Wall", "hasDoor", "(I)Z"⟩, 15), (⟨"HungPictures$Wall", "momentNow", "()I"⟩, 15), (⟨"HungPictures$Wall", "momentAt", "(II)I"⟩, 15), (⟨"HungPictures$Row", "search", "(LHungPictures$Wall;)V"⟩, 14), (⟨"HungPictures$Row", "markPlaces", "(LHungPictures$Wall;I)V"⟩, 14), (⟨"HungPictures$Row", "tryAllGaps", "(LHungPictures$Wall;I)V"⟩, 14), (⟨"HungPictures$Row", "takeIfBetter", "(II)V"⟩, 14), (⟨"HungPictures$Row", "answer", "(I)I"⟩, 14), (⟨"HungPictures$Row", "pictureAt", "(I)I"⟩, 14), (⟨"HungPictures", "countPlaces", "(I)I"⟩, 12), (⟨"HungPictures", "leastPlace", "(IZ)I"⟩, 12), (⟨"HungPictures", "calmestPlace", "(I)I"⟩, 12), (⟨"HungPictures$Crowd", "largestSet", "(LHungPictures$Wall;)I"⟩, 1), (⟨"HungPictures$Crowd", "leastEnd", "(LHungPictures$Wall;I)I"⟩, 1)]
theorem lw_r3 : ∀ q ∈ lw_privs_3, lw_okq q := List.forall_mem_cons.mpr ⟨lw_p32, List.forall_mem_cons.mpr ⟨lw_p33, List.forall_mem_cons.mpr ⟨lw_p34, List.forall_mem_cons.mpr ⟨lw_p35, List.forall_mem_cons.mpr ⟨lw_p36, List.forall_mem_cons.mpr ⟨lw_p37, List.forall_mem_cons.mpr ⟨lw_p38, List.forall_mem_cons.mpr ⟨lw_p39, List.forall_mem_cons.mpr ⟨lw_p40, List.forall_mem_cons.mpr ⟨lw_p41, List.forall_mem_cons.mpr ⟨lw_p42, List.forall_mem_cons.mpr ⟨lw_p43, List.forall_mem_cons.mpr ⟨lw_p44, List.forall_mem_cons.mpr ⟨lw_p45, List.forall_mem_cons.mpr ⟨lw_p46, List.forall_mem_cons.mpr ⟨lw_p47, fun _ h => absurd h List.not_mem_nil⟩⟩⟩⟩⟩⟩⟩⟩⟩⟩⟩⟩⟩⟩⟩⟩
theorem lw_p48 : lw_okq (⟨"HungPictures$Wall", "firstFit", "(II)I"⟩, 15) := ⟨⟨by decide +kernel, by decide +kernel⟩, List.mem_of_getElem? (i := 75) (by decide +kernel), List.mem_of_getElem? (i := 654) (by decide +kernel), List.mem_of_getElem? (i := 655) (by decide +kernel)⟩
theorem lw_p49 : lw_okq (⟨"HungPictures$Sights", "add", "(II)V"⟩, 3) := ⟨⟨by decide +kernel, by decide +kernel⟩, List.mem_of_getElem? (i := 241) (by decide +kernel), List.mem_of_getElem? (i := 675) (by decide +kernel), List.mem_of_getElem? (i := 676) (by decide +kernel)⟩
theorem lw_p50 : lw_okq (⟨"HungPictures$Sights", "countMatches", "(LHungPictures$Wall;)I"⟩, 3) := ⟨⟨by decide +kernel, by decide +kernel⟩, List.mem_of_getElem? (i := 241) (by decide +kernel), List.mem_of_getElem? (i := 687) (by decide +kernel), List.mem_of_getElem? (i := 688) (by decide +kernel)⟩
theorem lw_p51 : lw_okq (⟨"HungPictures$Sights", "matches", "(LHungPictures$Wall;I)Z"⟩, 3) := ⟨⟨by decide +kernel, by decide +kernel⟩, List.mem_of_getElem? (i := 241) (by decide +kernel), List.mem_of_getElem? (i := 691) (by decide +kernel), List.mem_of_getElem? (i := 692) (by decide +kernel)⟩
theorem lw_p52 : lw_okq (⟨"HungPictures$Sights", "leastMatch", "(LHungPictures$Wall;)I"⟩, 3) := ⟨⟨by decide +kernel, by decide +kernel⟩, List.mem_of_getElem? (i := 241) (by decide +kernel), List.mem_of_getElem? (i := 701) (by decide +kernel), List.mem_of_getElem? (i := 702) (by decide +kernel)⟩
theorem lw_p53 : lw_okq (⟨"HungPictures$Wall", "countUp", "()I"⟩, 15) := ⟨⟨by decide +kernel, by decide +kernel⟩, List.mem_of_getElem? (i := 75) (by decide +kernel), List.mem_of_getElem? (i := 709) (by decide +kernel), List.mem_of_getElem? (i := 710) (by decide +kernel)⟩
theorem lw_p54 : lw_okq (⟨"HungPicturesModel", "reads", "()I"⟩, 21) := ⟨⟨by decide +kernel, by decide +kernel⟩, List.mem_of_getElem? (i := 721) (by decide +kernel), List.mem_of_getElem? (i := 809) (by decide +kernel), List.mem_of_getElem? (i := 810) (by decide +kernel)⟩
theorem lw_p55 : lw_okq (⟨"HungPicturesModel", "skips", "()V"⟩, 21) := ⟨⟨by decide +kernel, by decide +kernel⟩, List.mem_of_getElem? (i := 721) (by decide +kernel), List.mem_of_getElem? (i := 813) (by decide +kernel), List.mem_of_getElem? (i := 814) (by decide +kernel)⟩
theorem lw_p56 : lw_okq (⟨"HungPicturesModel", "readsItem", "()Z"⟩, 21) := ⟨⟨by decide +kernel, by decide +kernel⟩, List.mem_of_getElem? (i := 721) (by decide +kernel), List.mem_of_getElem? (i := 817) (by decide +kernel), List.mem_of_getElem? (i := 818) (by decide +kernel)⟩
theorem lw_p57 : lw_okq (⟨"HungPicturesModel", "isAt", "(II)Z"⟩, 21) := ⟨⟨by decide +kernel, by decide +kernel⟩, List.mem_of_getElem? (i := 721) (by decide +kernel), List.mem_of_getElem? (i := 821) (by decide +kernel), List.mem_of_getElem? (i := 822) (by decide +kernel)⟩
theorem lw_p58 : lw_okq (⟨"HungPicturesModel", "spells", "(IIII)Z"⟩, 21) := ⟨⟨by decide +kernel, by decide +kernel⟩, List.mem_of_getElem? (i := 721) (by decide +kernel), List.mem_of_getElem? (i := 825) (by decide +kernel), List.mem_of_getElem? (i := 826) (by decide +kernel)⟩
theorem lw_p59 : lw_okq (⟨"HungPicturesModel", "readsWall", "()Z"⟩, 21) := ⟨⟨by decide +kernel, by decide +kernel⟩, List.mem_of_getElem? (i := 721) (by decide +kernel), List.mem_of_getElem? (i := 829) (by decide +kernel), List.mem_of_getElem? (i := 830) (by decide +kernel)⟩
theorem lw_p60 : lw_okq (⟨"HungPicturesModel", "puts", "(III)Z"⟩, 21) := ⟨⟨by decide +kernel, by decide +kernel⟩, List.mem_of_getElem? (i := 721) (by decide +kernel), List.mem_of_getElem? (i := 833) (by decide +kernel), List.mem_of_getElem? (i := 834) (by decide +kernel)⟩
theorem lw_p61 : lw_okq (⟨"HungPicturesModel", "readsPicture", "()Z"⟩, 21) := ⟨⟨by decide +kernel, by decide +kernel⟩, List.mem_of_getElem? (i := 721) (by decide +kernel), List.mem_of_getElem? (i := 837) (by decide +kernel), List.mem_of_getElem? (i := 838) (by decide +kernel)⟩
theorem lw_p62 : lw_okq (⟨"HungPicturesModel", "readsDoor", "()Z"⟩, 21) := ⟨⟨by decide +kernel, by decide +kernel⟩, List.mem_of_getElem? (i := 721) (by decide +kernel), List.mem_of_getElem? (i := 841) (by decide +kernel), List.mem_of_getElem? (i := 842) (by decide +kernel)⟩
theorem lw_p63 : lw_okq (⟨"HungPicturesModel", "readsHole", "()Z"⟩, 21) := ⟨⟨by decide +kernel, by decide +kernel⟩, List.mem_of_getElem? (i := 721) (by decide +kernel), List.mem_of_getElem? (i := 845) (by decide +kernel), List.mem_of_getElem? (i := 846) (by decide +kernel)⟩
def lw_privs_4 : List (MethodName × Nat) := [(⟨"HungPictures$Wall", "firstFit", "(II)I"⟩, 15), (⟨"HungPictures$Sights", "add", "(II)V"⟩, 3), (⟨"HungPictures$Sights", "countMatches", "(LHungPictures$Wall;)I"⟩, 3), (⟨"HungPictures$Sights", "matches", "(LHungPictures$Wall;I)Z"⟩, 3), (⟨"HungPictures$Sights", "leastMatch", "(LHungPictures$Wall;)I"⟩, 3), (⟨"HungPictures$Wall", "countUp", "()I"⟩, 15), (⟨"HungPicturesModel", "reads", "()I"⟩, 21), (⟨"HungPicturesModel", "skips", "()V"⟩, 21), (⟨"HungPicturesModel", "readsItem", "()Z"⟩, 21), (⟨"HungPicturesModel", "isAt", "(II)Z"⟩, 21), (⟨"HungPicturesModel", "spells", "(IIII)Z"⟩, 21), (⟨"HungPicturesModel", "readsWall", "()Z"⟩, 21), (⟨"HungPicturesModel", "puts", "(III)Z"⟩, 21), (⟨"HungPicturesModel", "readsPicture", "()Z"⟩, 21), (⟨"HungPicturesModel", "readsDoor", "()Z"⟩, 21), (⟨"HungPicturesModel", "readsHole", "()Z"⟩, 21)]
theorem lw_r4 : ∀ q ∈ lw_privs_4, lw_okq q := List.forall_mem_cons.mpr ⟨lw_p48, List.forall_mem_cons.mpr ⟨lw_p49, List.forall_mem_cons.mpr ⟨lw_p50, List.forall_mem_cons.mpr ⟨lw_p51, List.forall_mem_cons.mpr ⟨lw_p52, List.forall_mem_cons.mpr ⟨lw_p53, List.forall_mem_cons.mpr ⟨lw_p54, List.forall_mem_cons.mpr ⟨lw_p55, List.forall_mem_cons.mpr ⟨lw_p56, List.forall_mem_cons.mpr ⟨lw_p57, List.forall_mem_cons.mpr ⟨lw_p58, List.forall_mem_cons.mpr ⟨lw_p59, List.forall_mem_cons.mpr ⟨lw_p60, List.forall_mem_cons.mpr ⟨lw_p61, List.forall_mem_cons.mpr ⟨lw_p62, List.forall_mem_cons.mpr ⟨lw_p63, fun _ h => absurd h List.not_mem_nil⟩⟩⟩⟩⟩⟩⟩⟩⟩⟩⟩⟩⟩⟩⟩⟩
theorem lw_p64 : lw_okq (⟨"HungPicturesModel", "passesEnd", "()Z"⟩, 21) := ⟨⟨by decide +kernel, by decide +kernel⟩, List.mem_of_getElem? (i := 721) (by decide +kernel), List.mem_of_getElem? (i := 849) (by decide +kernel), List.mem_of_getElem? (i := 850) (by decide +kernel)⟩
theorem lw_p65 : lw_okq (⟨"HungPicturesModel", "keeps", "()V"⟩, 21) := ⟨⟨by decide +kernel, by decide +kernel⟩, List.mem_of_getElem? (i := 721) (by decide +kernel), List.mem_of_getElem? (i := 853) (by decide +kernel), List.mem_of_getElem? (i := 854) (by decide +kernel)⟩
theorem lw_p66 : lw_okq (⟨"HungPicturesModel", "isPicture", "(I)Z"⟩, 21) := ⟨⟨by decide +kernel, by decide +kernel⟩, List.mem_of_getElem? (i := 721) (by decide +kernel), List.mem_of_getElem? (i := 861) (by decide +kernel), List.mem_of_getElem? (i := 862) (by decide +kernel)⟩
theorem lw_p67 : lw_okq (⟨"HungPicturesModel", "hangsNow", "(I)Z"⟩, 21) := ⟨⟨by decide +kernel, by decide +kernel⟩, List.mem_of_getElem? (i := 721) (by decide +kernel), List.mem_of_getElem? (i := 865) (by decide +kernel), List.mem_of_getElem? (i := 866) (by decide +kernel)⟩
theorem lw_p68 : lw_okq (⟨"HungPicturesModel", "doesFit", "(II)Z"⟩, 21) := ⟨⟨by decide +kernel, by decide +kernel⟩, List.mem_of_getElem? (i := 721) (by decide +kernel), List.mem_of_getElem? (i := 869) (by decide +kernel), List.mem_of_getElem? (i := 870) (by decide +kernel)⟩
theorem lw_p69 : lw_okq (⟨"HungPicturesModel", "ofPicture", "(II)I"⟩, 21) := ⟨⟨by decide +kernel, by decide +kernel⟩, List.mem_of_getElem? (i := 721) (by decide +kernel), List.mem_of_getElem? (i := 873) (by decide +kernel), List.mem_of_getElem? (i := 874) (by decide +kernel)⟩
theorem lw_p70 : lw_okq (⟨"HungPicturesModel", "isApart", "(II)Z"⟩, 21) := ⟨⟨by decide +kernel, by decide +kernel⟩, List.mem_of_getElem? (i := 721) (by decide +kernel), List.mem_of_getElem? (i := 877) (by decide +kernel), List.mem_of_getElem? (i := 878) (by decide +kernel)⟩
theorem lw_p71 : lw_okq (⟨"HungPicturesModel", "hasHole", "(II)Z"⟩, 21) := ⟨⟨by decide +kernel, by decide +kernel⟩, List.mem_of_getElem? (i := 721) (by decide +kernel), List.mem_of_getElem? (i := 881) (by decide +kernel), List.mem_of_getElem? (i := 882) (by decide +kernel)⟩
theorem lw_p72 : lw_okq (⟨"HungPicturesModel", "hookX", "(II)I"⟩, 21) := ⟨⟨by decide +kernel, by decide +kernel⟩, List.mem_of_getElem? (i := 721) (by decide +kernel), List.mem_of_getElem? (i := 885) (by decide +kernel), List.mem_of_getElem? (i := 886) (by decide +kernel)⟩
theorem lw_p73 : lw_okq (⟨"HungPicturesModel", "hookY", "(I)I"⟩, 21) := ⟨⟨by decide +kernel, by decide +kernel⟩, List.mem_of_getElem? (i := 721) (by decide +kernel), List.mem_of_getElem? (i := 889) (by decide +kernel), List.mem_of_getElem? (i := 890) (by decide +kernel)⟩
theorem lw_p74 : lw_okq (⟨"HungPicturesModel", "holeAt", "(II)I"⟩, 21) := ⟨⟨by decide +kernel, by decide +kernel⟩, List.mem_of_getElem? (i := 721) (by decide +kernel), List.mem_of_getElem? (i := 893) (by decide +kernel), List.mem_of_getElem? (i := 894) (by decide +kernel)⟩
theorem lw_p75 : lw_okq (⟨"HungPicturesModel", "isHole", "(I)Z"⟩, 21) := ⟨⟨by decide +kernel, by decide +kernel⟩, List.mem_of_getElem? (i := 721) (by decide +kernel), List.mem_of_getElem? (i := 905) (by decide +kernel), List.mem_of_getElem? (i := 906) (by decide +kernel)⟩
theorem lw_p76 : lw_okq (⟨"HungPicturesModel", "hangingAt", "(I)I"⟩, 21) := ⟨⟨by decide +kernel, by decide +kernel⟩, List.mem_of_getElem? (i := 721) (by decide +kernel), List.mem_of_getElem? (i := 909) (by decide +kernel), List.mem_of_getElem? (i := 910) (by decide +kernel)⟩
theorem lw_p77 : lw_okq (⟨"HungPicturesModel", "momentNow", "()I"⟩, 21) := ⟨⟨by decide +kernel, by decide +kernel⟩, List.mem_of_getElem? (i := 721) (by decide +kernel), List.mem_of_getElem? (i := 938) (by decide +kernel), List.mem_of_getElem? (i := 939) (by decide +kernel)⟩
theorem lw_p78 : lw_okq (⟨"HungPicturesModel", "leanOf", "(II)I"⟩, 21) := ⟨⟨by decide +kernel, by decide +kernel⟩, List.mem_of_getElem? (i := 721) (by decide +kernel), List.mem_of_getElem? (i := 942) (by decide +kernel), List.mem_of_getElem? (i := 943) (by decide +kernel)⟩
theorem lw_p79 : lw_okq (⟨"HungPicturesModel", "findsBest", "()V"⟩, 21) := ⟨⟨by decide +kernel, by decide +kernel⟩, List.mem_of_getElem? (i := 721) (by decide +kernel), List.mem_of_getElem? (i := 953) (by decide +kernel), List.mem_of_getElem? (i := 954) (by decide +kernel)⟩
def lw_privs_5 : List (MethodName × Nat) := [(⟨"HungPicturesModel", "passesEnd", "()Z"⟩, 21), (⟨"HungPicturesModel", "keeps", "()V"⟩, 21), (⟨"HungPicturesModel", "isPicture", "(I)Z"⟩, 21), (⟨"HungPicturesModel", "hangsNow", "(I)Z"⟩, 21), (⟨"HungPicturesModel", "doesFit", "(II)Z"⟩, 21), (⟨"HungPicturesModel", "ofPicture", "(II)I"⟩, 21), (⟨"HungPicturesModel", "isApart", "(II)Z"⟩, 21), (⟨"HungPicturesModel", "hasHole", "(II)Z"⟩, 21), (⟨"HungPicturesModel", "hookX", "(II)I"⟩, 21), (⟨"HungPicturesModel", "hookY", "(I)I"⟩, 21), (⟨"HungPicturesModel", "holeAt", "(II)I"⟩, 21), (⟨"HungPicturesModel", "isHole", "(I)Z"⟩, 21), (⟨"HungPicturesModel", "hangingAt", "(I)I"⟩, 21), (⟨"HungPicturesModel", "momentNow", "()I"⟩, 21), (⟨"HungPicturesModel", "leanOf", "(II)I"⟩, 21), (⟨"HungPicturesModel", "findsBest", "()V"⟩, 21)]
theorem lw_r5 : ∀ q ∈ lw_privs_5, lw_okq q := List.forall_mem_cons.mpr ⟨lw_p64, List.forall_mem_cons.mpr ⟨lw_p65, List.forall_mem_cons.mpr ⟨lw_p66, List.forall_mem_cons.mpr ⟨lw_p67, List.forall_mem_cons.mpr ⟨lw_p68, List.forall_mem_cons.mpr ⟨lw_p69, List.forall_mem_cons.mpr ⟨lw_p70, List.forall_mem_cons.mpr ⟨lw_p71, List.forall_mem_cons.mpr ⟨lw_p72, List.forall_mem_cons.mpr ⟨lw_p73, List.forall_mem_cons.mpr ⟨lw_p74, List.forall_mem_cons.mpr ⟨lw_p75, List.forall_mem_cons.mpr ⟨lw_p76, List.forall_mem_cons.mpr ⟨lw_p77, List.forall_mem_cons.mpr ⟨lw_p78, List.forall_mem_cons.mpr ⟨lw_p79, fun _ h => absurd h List.not_mem_nil⟩⟩⟩⟩⟩⟩⟩⟩⟩⟩⟩⟩⟩⟩⟩⟩
theorem lw_p80 : lw_okq (⟨"HungPicturesModel", "laysPlaces", "()V"⟩, 21) := ⟨⟨by decide +kernel, by decide +kernel⟩, List.mem_of_getElem? (i := 721) (by decide +kernel), List.mem_of_getElem? (i := 957) (by decide +kernel), List.mem_of_getElem? (i := 958) (by decide +kernel)⟩
theorem lw_p81 : lw_okq (⟨"HungPicturesModel", "isOrder", "(I)Z"⟩, 21) := ⟨⟨by decide +kernel, by decide +kernel⟩, List.mem_of_getElem? (i := 721) (by decide +kernel), List.mem_of_getElem? (i := 961) (by decide +kernel), List.mem_of_getElem? (i := 962) (by decide +kernel)⟩
theorem lw_p82 : lw_okq (⟨"HungPicturesModel", "tries", "(II)V"⟩, 21) := ⟨⟨by decide +kernel, by decide +kernel⟩, List.mem_of_getElem? (i := 721) (by decide +kernel), List.mem_of_getElem? (i := 965) (by decide +kernel), List.mem_of_getElem? (i := 966) (by decide +kernel)⟩
theorem lw_p83 : lw_okq (⟨"HungPicturesModel", "tellPlaces", "(II)I"⟩, 21) := ⟨⟨by decide +kernel, by decide +kernel⟩, List.mem_of_getElem? (i := 721) (by decide +kernel), List.mem_of_getElem? (i := 973) (by decide +kernel), List.mem_of_getElem? (i := 974) (by decide +kernel)⟩
theorem lw_p84 : lw_okq (⟨"HungPicturesModel", "reachOf", "(I)I"⟩, 21) := ⟨⟨by decide +kernel, by decide +kernel⟩, List.mem_of_getElem? (i := 721) (by decide +kernel), List.mem_of_getElem? (i := 981) (by decide +kernel), List.mem_of_getElem? (i := 982) (by decide +kernel)⟩
theorem lw_p85 : lw_okq (⟨"HungPicturesModel", "isSeen", "(I)Z"⟩, 21) := ⟨⟨by decide +kernel, by decide +kernel⟩, List.mem_of_getElem? (i := 721) (by decide +kernel), List.mem_of_getElem? (i := 1000) (by decide +kernel), List.mem_of_getElem? (i := 1001) (by decide +kernel)⟩
theorem lw_p86 : lw_okq (⟨"HungPicturesModel", "hanging", "()I"⟩, 21) := ⟨⟨by decide +kernel, by decide +kernel⟩, List.mem_of_getElem? (i := 721) (by decide +kernel), List.mem_of_getElem? (i := 1008) (by decide +kernel), List.mem_of_getElem? (i := 1009) (by decide +kernel)⟩
def lw_privs_6 : List (MethodName × Nat) := [(⟨"HungPicturesModel", "laysPlaces", "()V"⟩, 21), (⟨"HungPicturesModel", "isOrder", "(I)Z"⟩, 21), (⟨"HungPicturesModel", "tries", "(II)V"⟩, 21), (⟨"HungPicturesModel", "tellPlaces", "(II)I"⟩, 21), (⟨"HungPicturesModel", "reachOf", "(I)I"⟩, 21), (⟨"HungPicturesModel", "isSeen", "(I)Z"⟩, 21), (⟨"HungPicturesModel", "hanging", "()I"⟩, 21)]
theorem lw_r6 : ∀ q ∈ lw_privs_6, lw_okq q := List.forall_mem_cons.mpr ⟨lw_p80, List.forall_mem_cons.mpr ⟨lw_p81, List.forall_mem_cons.mpr ⟨lw_p82, List.forall_mem_cons.mpr ⟨lw_p83, List.forall_mem_cons.mpr ⟨lw_p84, List.forall_mem_cons.mpr ⟨lw_p85, List.forall_mem_cons.mpr ⟨lw_p86, fun _ h => absurd h List.not_mem_nil⟩⟩⟩⟩⟩⟩⟩
def lw_privs : List (MethodName × Nat) := lw_privs_1 ++ (lw_privs_2 ++ (lw_privs_3 ++ (lw_privs_4 ++ (lw_privs_5 ++ (lw_privs_6)))))
def lw_tbl : List Cond := k2_sels lw_privs ++ tables_1
theorem lw_privs_ok : ∀ q ∈ lw_privs, lw_okq q := by
  show ∀ q ∈ lw_privs_1 ++ (lw_privs_2 ++ (lw_privs_3 ++ (lw_privs_4 ++ (lw_privs_5 ++ (lw_privs_6))))), lw_okq q
  exact List.forall_mem_append.mpr ⟨lw_r1, List.forall_mem_append.mpr ⟨lw_r2, List.forall_mem_append.mpr ⟨lw_r3, List.forall_mem_append.mpr ⟨lw_r4, List.forall_mem_append.mpr ⟨lw_r5, lw_r6⟩⟩⟩⟩⟩
end
section
/-! ===== BEGIN words of one list among another's, by their places ===== -/
theorem goodIn_r {big : List Cond} (ws : List Cond) (ps : List Nat) (hp : ws = ps.filterMap (fun i => big[i]?)) (h : ws.all goodWord = true) : GoodIn big ws := by
  intro w hw
  have h1 := List.all_eq_true.mp h w hw
  rw [hp] at hw
  obtain ⟨i, -, hi⟩ := List.mem_filterMap.mp hw
  have hm : w ∈ big := by first | exact List.mem_of_getElem? hi | exact List.getElem?_mem hi
  exact ⟨hm, good_of_word h1⟩
theorem goodIn_app {big a b : List Cond} (ha : GoodIn big a) (hb : GoodIn big b) : GoodIn big (a ++ b) := fun w h => (List.mem_append.mp h).elim (ha w) (hb w)
theorem goodIn_ca {big a b : List Cond} {c : Cond} (ha : GoodIn big (c :: a)) (hb : GoodIn big b) : GoodIn big (c :: (a ++ b)) := fun w h => (List.mem_cons.mp h).elim (fun e => ha w (List.mem_cons.mpr (Or.inl e))) (fun h => (List.mem_append.mp h).elim (fun h => ha w (List.mem_cons.mpr (Or.inr h))) (hb w))
theorem goodIn_sub {big ws : List Cond} (hm : ∀ w ∈ ws, w ∈ big) (h : ws.all goodWord = true) : GoodIn big ws := fun w hw => ⟨hm w hw, good_of_word (List.all_eq_true.mp h w hw)⟩
/-! ===== END ===== -/

/-! ===== BEGIN printed: names, fields, word lists, decode rows ===== -/
def RX0 : String := "HungPictures$Crowd"
def TX0 : u_T := fun k => match k with
  | _ => ("HungPictures$Crowd", "ends", "[I", true)
def tyX0 : Nat → FieldType := fun k => match k with
  | _ => .array .int
abbrev wsX00 : List Cond := u_ws RX0 TX0 1
theorem nmX0 : ∀ a, a < 1 → ∀ b, b < 1 → a ≠ b → (TX0 a).2.1 ≠ (TX0 b).2.1 := by decide +kernel
theorem tyX0_ok : ∀ k, k < 1 → parseFieldDescriptor (TX0 k).2.2.1 = some (tyX0 k) := by decide +kernel
abbrev cX0_init : ByteArray := prog_2_method_1_code
def yX0_init : MethodName := ⟨RX0, "<init>", "()V"⟩
abbrev cX0_largestSet : ByteArray := prog_2_method_2_code
def yX0_largestSet : MethodName := ⟨RX0, "largestSet", "(LHungPictures$Wall;)I"⟩
abbrev cX0_leastEnd : ByteArray := prog_2_method_3_code
def yX0_leastEnd : MethodName := ⟨RX0, "leastEnd", "(LHungPictures$Wall;I)I"⟩
abbrev cX0_isBetter : ByteArray := prog_2_method_4_code
def yX0_isBetter : MethodName := ⟨RX0, "isBetter", "(LHungPictures$Wall;II)Z"⟩
abbrev cX0_weightOf : ByteArray := prog_2_method_5_code
def yX0_weightOf : MethodName := ⟨RX0, "weightOf", "(LHungPictures$Wall;I)I"⟩
def RX1 : String := "HungPictures$Past"
def TX1 : u_T := fun k => match k with
  | 0 => ("HungPictures$Past", "walls", "[LHungPictures$Wall;", true)
  | _ => ("HungPictures$Past", "known", "I", false)
def tyX1 : Nat → FieldType := fun k => match k with
  | 0 => .array (.object "HungPictures$Wall")
  | _ => .int
abbrev wsX10 : List Cond := u_ws RX1 TX1 2
theorem nmX1 : ∀ a, a < 2 → ∀ b, b < 2 → a ≠ b → (TX1 a).2.1 ≠ (TX1 b).2.1 := by decide +kernel
theorem tyX1_ok : ∀ k, k < 2 → parseFieldDescriptor (TX1 k).2.2.1 = some (tyX1 k) := by decide +kernel
abbrev cX1_init : ByteArray := prog_3_method_1_code
def yX1_init : MethodName := ⟨RX1, "<init>", "()V"⟩
abbrev cX1_add : ByteArray := prog_3_method_2_code
def yX1_add : MethodName := ⟨RX1, "add", "(LHungPictures$Wall;)V"⟩
abbrev cX1_loseOldest : ByteArray := prog_3_method_3_code
def yX1_loseOldest : MethodName := ⟨RX1, "loseOldest", "()V"⟩
abbrev cX1_giveLatestTo : ByteArray := prog_3_method_4_code
def yX1_giveLatestTo : MethodName := ⟨RX1, "giveLatestTo", "(LHungPictures$Wall;)Z"⟩
def RX2 : String := "HungPictures$Reader"
def TX2 : u_T := fun k => match k with
  | 0 => ("HungPictures$Reader", "tokens", "LHungPictures$Tokens;", true)
  | 1 => ("HungPictures$Reader", "next", "I", false)
  | 2 => ("HungPictures$Reader", "kind", "I", false)
  | 3 => ("HungPictures$Reader", "place", "I", false)
  | 4 => ("HungPictures$Reader", "value", "I", false)
  | _ => ("HungPictures$Reader", "wallTold", "Z", false)
def tyX2 : Nat → FieldType := fun k => match k with
  | 0 => .object "HungPictures$Tokens"
  | 1 => .int
  | 2 => .int
  | 3 => .int
  | 4 => .int
  | _ => .boolean
abbrev wsX20 : List Cond := u_ws RX2 TX2 6
theorem nmX2 : ∀ a, a < 6 → ∀ b, b < 6 → a ≠ b → (TX2 a).2.1 ≠ (TX2 b).2.1 := by decide +kernel
theorem tyX2_ok : ∀ k, k < 6 → parseFieldDescriptor (TX2 k).2.2.1 = some (tyX2 k) := by decide +kernel
abbrev cX2_init : ByteArray := prog_4_method_1_code
def yX2_init : MethodName := ⟨RX2, "<init>", "()V"⟩
abbrev cX2_readInto : ByteArray := prog_4_method_2_code
def yX2_readInto : MethodName := ⟨RX2, "readInto", "(LHungPictures$Wall;[II)I"⟩
abbrev cX2_readToken : ByteArray := prog_4_method_3_code
def yX2_readToken : MethodName := ⟨RX2, "readToken", "()V"⟩
abbrev cX2_readSemicolon : ByteArray := prog_4_method_4_code
def yX2_readSemicolon : MethodName := ⟨RX2, "readSemicolon", "()Z"⟩
abbrev cX2_readNumber : ByteArray := prog_4_method_5_code
def yX2_readNumber : MethodName := ⟨RX2, "readNumber", "(II)Z"⟩
abbrev cX2_readItem : ByteArray := prog_4_method_6_code
def yX2_readItem : MethodName := ⟨RX2, "readItem", "(LHungPictures$Wall;)Z"⟩
abbrev cX2_readWall : ByteArray := prog_4_method_7_code
def yX2_readWall : MethodName := ⟨RX2, "readWall", "(LHungPictures$Wall;)Z"⟩
abbrev cX2_readPicture : ByteArray := prog_4_method_8_code
def yX2_readPicture : MethodName := ⟨RX2, "readPicture", "(LHungPictures$Wall;)Z"⟩
abbrev cX2_readDoor : ByteArray := prog_4_method_9_code
def yX2_readDoor : MethodName := ⟨RX2, "readDoor", "(LHungPictures$Wall;)Z"⟩
abbrev cX2_readHole : ByteArray := prog_4_method_10_code
def yX2_readHole : MethodName := ⟨RX2, "readHole", "(LHungPictures$Wall;)Z"⟩
def RX3 : String := "HungPictures$Row"
def TX3 : u_T := fun k => match k with
  | 0 => ("HungPictures$Row", "fitting", "[J", true)
  | 1 => ("HungPictures$Row", "holed", "[J", true)
  | 2 => ("HungPictures$Row", "tried", "[I", true)
  | 3 => ("HungPictures$Row", "order", "[I", true)
  | 4 => ("HungPictures$Row", "triedGap", "I", false)
  | 5 => ("HungPictures$Row", "triedFirst", "I", false)
  | 6 => ("HungPictures$Row", "size", "I", false)
  | 7 => ("HungPictures$Row", "leastBare", "I", false)
  | 8 => ("HungPictures$Row", "leastOff", "I", false)
  | 9 => ("HungPictures$Row", "found", "Z", false)
  | 10 => ("HungPictures$Row", "bare", "I", false)
  | 11 => ("HungPictures$Row", "off", "I", false)
  | 12 => ("HungPictures$Row", "gap", "I", false)
  | _ => ("HungPictures$Row", "first", "I", false)
def tyX3 : Nat → FieldType := fun k => match k with
  | 0 => .array .long
  | 1 => .array .long
  | 2 => .array .int
  | 3 => .array .int
  | 4 => .int
  | 5 => .int
  | 6 => .int
  | 7 => .int
  | 8 => .int
  | 9 => .boolean
  | 10 => .int
  | 11 => .int
  | 12 => .int
  | _ => .int
abbrev wsX30 : List Cond := u_ws RX3 TX3 14
theorem nmX3 : ∀ a, a < 14 → ∀ b, b < 14 → a ≠ b → (TX3 a).2.1 ≠ (TX3 b).2.1 := by decide +kernel
theorem tyX3_ok : ∀ k, k < 14 → parseFieldDescriptor (TX3 k).2.2.1 = some (tyX3 k) := by decide +kernel
abbrev cX3_init : ByteArray := prog_5_method_1_code
def yX3_init : MethodName := ⟨RX3, "<init>", "()V"⟩
abbrev cX3_answer : ByteArray := prog_5_method_2_code
def yX3_answer : MethodName := ⟨RX3, "answer", "(I)I"⟩
abbrev cX3_pictureAt : ByteArray := prog_5_method_3_code
def yX3_pictureAt : MethodName := ⟨RX3, "pictureAt", "(I)I"⟩
abbrev cX3_search : ByteArray := prog_5_method_4_code
def yX3_search : MethodName := ⟨RX3, "search", "(LHungPictures$Wall;)V"⟩
abbrev cX3_markPlaces : ByteArray := prog_5_method_5_code
def yX3_markPlaces : MethodName := ⟨RX3, "markPlaces", "(LHungPictures$Wall;I)V"⟩
abbrev cX3_tryAllGaps : ByteArray := prog_5_method_6_code
def yX3_tryAllGaps : MethodName := ⟨RX3, "tryAllGaps", "(LHungPictures$Wall;I)V"⟩
abbrev cX3_tryOrders : ByteArray := prog_5_method_7_code
def yX3_tryOrders : MethodName := ⟨RX3, "tryOrders", "(LHungPictures$Row;LHungPictures$Wall;IIIII)V"⟩
abbrev cX3_takeIfBetter : ByteArray := prog_5_method_8_code
def yX3_takeIfBetter : MethodName := ⟨RX3, "takeIfBetter", "(II)V"⟩
abbrev cX3_isMarked : ByteArray := prog_5_method_9_code
def yX3_isMarked : MethodName := ⟨RX3, "isMarked", "(JI)Z"⟩
def RX4 : String := "HungPictures$Sights"
def TX4 : u_T := fun k => match k with
  | 0 => ("HungPictures$Sights", "whats", "[I", true)
  | 1 => ("HungPictures$Sights", "numbers", "[I", true)
  | _ => ("HungPictures$Sights", "size", "I", false)
def tyX4 : Nat → FieldType := fun k => match k with
  | 0 => .array .int
  | 1 => .array .int
  | _ => .int
abbrev wsX40 : List Cond := u_ws RX4 TX4 3
theorem nmX4 : ∀ a, a < 3 → ∀ b, b < 3 → a ≠ b → (TX4 a).2.1 ≠ (TX4 b).2.1 := by decide +kernel
theorem tyX4_ok : ∀ k, k < 3 → parseFieldDescriptor (TX4 k).2.2.1 = some (tyX4 k) := by decide +kernel
abbrev cX4_init : ByteArray := prog_6_method_1_code
def yX4_init : MethodName := ⟨RX4, "<init>", "()V"⟩
abbrev cX4_add : ByteArray := prog_6_method_2_code
def yX4_add : MethodName := ⟨RX4, "add", "(II)V"⟩
abbrev cX4_countMatches : ByteArray := prog_6_method_3_code
def yX4_countMatches : MethodName := ⟨RX4, "countMatches", "(LHungPictures$Wall;)I"⟩
abbrev cX4_leastMatch : ByteArray := prog_6_method_4_code
def yX4_leastMatch : MethodName := ⟨RX4, "leastMatch", "(LHungPictures$Wall;)I"⟩
abbrev cX4_matches : ByteArray := prog_6_method_5_code
def yX4_matches : MethodName := ⟨RX4, "matches", "(LHungPictures$Wall;I)Z"⟩
abbrev cX4_measured : ByteArray := prog_6_method_6_code
def yX4_measured : MethodName := ⟨RX4, "measured", "(LHungPictures$Wall;II)I"⟩
def RX5 : String := "HungPictures$Tokens"
def TX5 : u_T := fun k => match k with
  | 0 => ("HungPictures$Tokens", "kinds", "[I", true)
  | 1 => ("HungPictures$Tokens", "places", "[I", true)
  | 2 => ("HungPictures$Tokens", "values", "[I", true)
  | _ => ("HungPictures$Tokens", "size", "I", false)
def tyX5 : Nat → FieldType := fun k => match k with
  | 0 => .array .int
  | 1 => .array .int
  | 2 => .array .int
  | _ => .int
abbrev wsX50 : List Cond := u_ws RX5 TX5 4
theorem nmX5 : ∀ a, a < 4 → ∀ b, b < 4 → a ≠ b → (TX5 a).2.1 ≠ (TX5 b).2.1 := by decide +kernel
theorem tyX5_ok : ∀ k, k < 4 → parseFieldDescriptor (TX5 k).2.2.1 = some (tyX5 k) := by decide +kernel
abbrev cX5_init : ByteArray := prog_7_method_1_code
def yX5_init : MethodName := ⟨RX5, "<init>", "()V"⟩
abbrev cX5_cut : ByteArray := prog_7_method_2_code
def yX5_cut : MethodName := ⟨RX5, "cut", "([II)V"⟩
abbrev cX5_add : ByteArray := prog_7_method_3_code
def yX5_add : MethodName := ⟨RX5, "add", "(III)V"⟩
abbrev cX5_endOfToken : ByteArray := prog_7_method_4_code
def yX5_endOfToken : MethodName := ⟨RX5, "endOfToken", "([III)I"⟩
abbrev cX5_sortAt : ByteArray := prog_7_method_5_code
def yX5_sortAt : MethodName := ⟨RX5, "sortAt", "([II)I"⟩
abbrev cX5_kindOf : ByteArray := prog_7_method_6_code
def yX5_kindOf : MethodName := ⟨RX5, "kindOf", "([III)I"⟩
abbrev cX5_kindOfFigures : ByteArray := prog_7_method_7_code
def yX5_kindOfFigures : MethodName := ⟨RX5, "kindOfFigures", "([III)I"⟩
abbrev cX5_kindOfWord : ByteArray := prog_7_method_8_code
def yX5_kindOfWord : MethodName := ⟨RX5, "kindOfWord", "([III)I"⟩
abbrev cX5_spells : ByteArray := prog_7_method_9_code
def yX5_spells : MethodName := ⟨RX5, "spells", "([IIILjava/lang/String;)Z"⟩
abbrev cX5_valueOf : ByteArray := prog_7_method_10_code
def yX5_valueOf : MethodName := ⟨RX5, "valueOf", "([III)I"⟩
def RX6 : String := "HungPictures$Wall"
def TX6 : u_T := fun k => match k with
  | 0 => ("HungPictures$Wall", "width", "I", false)
  | 1 => ("HungPictures$Wall", "line", "I", false)
  | 2 => ("HungPictures$Wall", "gap", "I", false)
  | 3 => ("HungPictures$Wall", "pictures", "I", false)
  | 4 => ("HungPictures$Wall", "doors", "I", false)
  | 5 => ("HungPictures$Wall", "holes", "I", false)
  | 6 => ("HungPictures$Wall", "wide", "[I", true)
  | 7 => ("HungPictures$Wall", "tall", "[I", true)
  | 8 => ("HungPictures$Wall", "drop", "[I", true)
  | 9 => ("HungPictures$Wall", "weight", "[I", true)
  | 10 => ("HungPictures$Wall", "at", "[I", true)
  | 11 => ("HungPictures$Wall", "from", "[I", true)
  | 12 => ("HungPictures$Wall", "to", "[I", true)
  | 13 => ("HungPictures$Wall", "holeX", "[I", true)
  | _ => ("HungPictures$Wall", "holeY", "[I", true)
def tyX6 : Nat → FieldType := fun k => match k with
  | 0 => .int
  | 1 => .int
  | 2 => .int
  | 3 => .int
  | 4 => .int
  | 5 => .int
  | 6 => .array .int
  | 7 => .array .int
  | 8 => .array .int
  | 9 => .array .int
  | 10 => .array .int
  | 11 => .array .int
  | 12 => .array .int
  | 13 => .array .int
  | _ => .array .int
abbrev wsX60 : List Cond := u_ws RX6 TX6 15
theorem nmX6 : ∀ a, a < 15 → ∀ b, b < 15 → a ≠ b → (TX6 a).2.1 ≠ (TX6 b).2.1 := by decide +kernel
theorem tyX6_ok : ∀ k, k < 15 → parseFieldDescriptor (TX6 k).2.2.1 = some (tyX6 k) := by decide +kernel
abbrev cX6_init : ByteArray := prog_8_method_1_code
def yX6_init : MethodName := ⟨RX6, "<init>", "()V"⟩
abbrev cX6_makeBare : ByteArray := prog_8_method_2_code
def yX6_makeBare : MethodName := ⟨RX6, "makeBare", "()V"⟩
abbrev cX6_copyFrom : ByteArray := prog_8_method_3_code
def yX6_copyFrom : MethodName := ⟨RX6, "copyFrom", "(LHungPictures$Wall;)V"⟩
abbrev cX6_addPicture : ByteArray := prog_8_method_4_code
def yX6_addPicture : MethodName := ⟨RX6, "addPicture", "(IIII)V"⟩
abbrev cX6_addDoor : ByteArray := prog_8_method_5_code
def yX6_addDoor : MethodName := ⟨RX6, "addDoor", "(II)V"⟩
abbrev cX6_addHole : ByteArray := prog_8_method_6_code
def yX6_addHole : MethodName := ⟨RX6, "addHole", "(II)V"⟩
abbrev cX6_removeHole : ByteArray := prog_8_method_7_code
def yX6_removeHole : MethodName := ⟨RX6, "removeHole", "(I)V"⟩
abbrev cX6_hasPicture : ByteArray := prog_8_method_8_code
def yX6_hasPicture : MethodName := ⟨RX6, "hasPicture", "(I)Z"⟩
abbrev cX6_hasDoor : ByteArray := prog_8_method_9_code
def yX6_hasDoor : MethodName := ⟨RX6, "hasDoor", "(I)Z"⟩
abbrev cX6_hasHole : ByteArray := prog_8_method_10_code
def yX6_hasHole : MethodName := ⟨RX6, "hasHole", "(I)Z"⟩
abbrev cX6_isUp : ByteArray := prog_8_method_11_code
def yX6_isUp : MethodName := ⟨RX6, "isUp", "(I)Z"⟩
abbrev cX6_hookX : ByteArray := prog_8_method_12_code
def yX6_hookX : MethodName := ⟨RX6, "hookX", "(II)I"⟩
abbrev cX6_hookY : ByteArray := prog_8_method_13_code
def yX6_hookY : MethodName := ⟨RX6, "hookY", "(I)I"⟩
abbrev cX6_findHole : ByteArray := prog_8_method_14_code
def yX6_findHole : MethodName := ⟨RX6, "findHole", "(II)I"⟩
abbrev cX6_hasHoleFor : ByteArray := prog_8_method_15_code
def yX6_hasHoleFor : MethodName := ⟨RX6, "hasHoleFor", "(II)Z"⟩
abbrev cX6_findPictureOn : ByteArray := prog_8_method_16_code
def yX6_findPictureOn : MethodName := ⟨RX6, "findPictureOn", "(I)I"⟩
abbrev cX6_fits : ByteArray := prog_8_method_17_code
def yX6_fits : MethodName := ⟨RX6, "fits", "(II)Z"⟩
abbrev cX6_isApartFromAll : ByteArray := prog_8_method_18_code
def yX6_isApartFromAll : MethodName := ⟨RX6, "isApartFromAll", "(II)Z"⟩
abbrev cX6_isFreeFor : ByteArray := prog_8_method_19_code
def yX6_isFreeFor : MethodName := ⟨RX6, "isFreeFor", "(II)Z"⟩
abbrev cX6_putUp : ByteArray := prog_8_method_20_code
def yX6_putUp : MethodName := ⟨RX6, "putUp", "(II)V"⟩
abbrev cX6_takeAllDown : ByteArray := prog_8_method_21_code
def yX6_takeAllDown : MethodName := ⟨RX6, "takeAllDown", "()V"⟩
abbrev cX6_countUp : ByteArray := prog_8_method_22_code
def yX6_countUp : MethodName := ⟨RX6, "countUp", "()I"⟩
abbrev cX6_momentAt : ByteArray := prog_8_method_23_code
def yX6_momentAt : MethodName := ⟨RX6, "momentAt", "(II)I"⟩
abbrev cX6_momentNow : ByteArray := prog_8_method_24_code
def yX6_momentNow : MethodName := ⟨RX6, "momentNow", "()I"⟩
abbrev cX6_firstFit : ByteArray := prog_8_method_25_code
def yX6_firstFit : MethodName := ⟨RX6, "firstFit", "(II)I"⟩
def RX7 : String := "HungPictures"
def TX7 : u_T := fun k => match k with
  | 0 => ("HungPictures", "text", "[I", true)
  | 1 => ("HungPictures", "letters", "I", false)
  | 2 => ("HungPictures", "reader", "LHungPictures$Reader;", true)
  | 3 => ("HungPictures", "wall", "LHungPictures$Wall;", true)
  | 4 => ("HungPictures", "draft", "LHungPictures$Wall;", true)
  | 5 => ("HungPictures", "past", "LHungPictures$Past;", true)
  | 6 => ("HungPictures", "row", "LHungPictures$Row;", true)
  | 7 => ("HungPictures", "rowKnown", "Z", false)
  | 8 => ("HungPictures", "crowd", "LHungPictures$Crowd;", true)
  | 9 => ("HungPictures", "sights", "LHungPictures$Sights;", true)
  | 10 => ("HungPictures", "images", "[LHungPictures$Wall;", true)
  | _ => ("HungPictures", "imageKept", "[Z", true)
def tyX7 : Nat → FieldType := fun k => match k with
  | 0 => .array .int
  | 1 => .int
  | 2 => .object "HungPictures$Reader"
  | 3 => .object "HungPictures$Wall"
  | 4 => .object "HungPictures$Wall"
  | 5 => .object "HungPictures$Past"
  | 6 => .object "HungPictures$Row"
  | 7 => .boolean
  | 8 => .object "HungPictures$Crowd"
  | 9 => .object "HungPictures$Sights"
  | 10 => .array (.object "HungPictures$Wall")
  | _ => .array .boolean
abbrev wsX70 : List Cond := u_ws RX7 TX7 12
theorem nmX7 : ∀ a, a < 12 → ∀ b, b < 12 → a ≠ b → (TX7 a).2.1 ≠ (TX7 b).2.1 := by decide +kernel
theorem tyX7_ok : ∀ k, k < 12 → parseFieldDescriptor (TX7 k).2.2.1 = some (tyX7 k) := by decide +kernel
abbrev cX7_init : ByteArray := prog_1_method_1_code
def yX7_init : MethodName := ⟨RX7, "<init>", "()V"⟩
abbrev cX7_type : ByteArray := prog_1_method_2_code
def yX7_type : MethodName := ⟨RX7, "type", "(I)I"⟩
abbrev cX7_clear : ByteArray := prog_1_method_3_code
def yX7_clear : MethodName := ⟨RX7, "clear", "()I"⟩
abbrev cX7_tells : ByteArray := prog_1_method_4_code
def yX7_tells : MethodName := ⟨RX7, "tells", "()I"⟩
abbrev cX7_hangs : ByteArray := prog_1_method_5_code
def yX7_hangs : MethodName := ⟨RX7, "hangs", "(II)I"⟩
abbrev cX7_takes : ByteArray := prog_1_method_6_code
def yX7_takes : MethodName := ⟨RX7, "takes", "(I)I"⟩
abbrev cX7_fills : ByteArray := prog_1_method_7_code
def yX7_fills : MethodName := ⟨RX7, "fills", "(I)I"⟩
abbrev cX7_lines : ByteArray := prog_1_method_8_code
def yX7_lines : MethodName := ⟨RX7, "lines", "(I)I"⟩
abbrev cX7_undo : ByteArray := prog_1_method_9_code
def yX7_undo : MethodName := ⟨RX7, "undo", "()I"⟩
abbrev cX7_picture : ByteArray := prog_1_method_10_code
def yX7_picture : MethodName := ⟨RX7, "picture", "(II)I"⟩
abbrev cX7_hole : ByteArray := prog_1_method_11_code
def yX7_hole : MethodName := ⟨RX7, "hole", "(II)I"⟩
abbrev cX7_door : ByteArray := prog_1_method_12_code
def yX7_door : MethodName := ⟨RX7, "door", "(II)I"⟩
abbrev cX7_moment : ByteArray := prog_1_method_13_code
def yX7_moment : MethodName := ⟨RX7, "moment", "(I)I"⟩
abbrev cX7_best : ByteArray := prog_1_method_14_code
def yX7_best : MethodName := ⟨RX7, "best", "(I)I"⟩
abbrev cX7_places : ByteArray := prog_1_method_15_code
def yX7_places : MethodName := ⟨RX7, "places", "(II)I"⟩
abbrev cX7_most : ByteArray := prog_1_method_16_code
def yX7_most : MethodName := ⟨RX7, "most", "()I"⟩
abbrev cX7_sees : ByteArray := prog_1_method_17_code
def yX7_sees : MethodName := ⟨RX7, "sees", "(II)I"⟩
abbrev cX7_forget : ByteArray := prog_1_method_18_code
def yX7_forget : MethodName := ⟨RX7, "forget", "()I"⟩
abbrev cX7_which : ByteArray := prog_1_method_19_code
def yX7_which : MethodName := ⟨RX7, "which", "(I)I"⟩
abbrev cX7_keep : ByteArray := prog_1_method_20_code
def yX7_keep : MethodName := ⟨RX7, "keep", "(I)I"⟩
abbrev cX7_back : ByteArray := prog_1_method_21_code
def yX7_back : MethodName := ⟨RX7, "back", "(I)I"⟩
abbrev cX7_count : ByteArray := prog_1_method_22_code
def yX7_count : MethodName := ⟨RX7, "count", "(I)I"⟩
abbrev cX7_remember : ByteArray := prog_1_method_23_code
def yX7_remember : MethodName := ⟨RX7, "remember", "()V"⟩
abbrev cX7_countPlaces : ByteArray := prog_1_method_24_code
def yX7_countPlaces : MethodName := ⟨RX7, "countPlaces", "(I)I"⟩
abbrev cX7_leastPlace : ByteArray := prog_1_method_25_code
def yX7_leastPlace : MethodName := ⟨RX7, "leastPlace", "(IZ)I"⟩
abbrev cX7_calmestPlace : ByteArray := prog_1_method_26_code
def yX7_calmestPlace : MethodName := ⟨RX7, "calmestPlace", "(I)I"⟩
def RX8 : String := "HungPicturesModel"
def TX8 : u_T := fun k => match k with
  | 0 => ("HungPicturesModel", "now", "[I", true)
  | 1 => ("HungPicturesModel", "fresh", "[I", true)
  | 2 => ("HungPicturesModel", "past", "[I", true)
  | 3 => ("HungPicturesModel", "undos", "I", false)
  | 4 => ("HungPicturesModel", "images", "[I", true)
  | 5 => ("HungPicturesModel", "isKept", "[Z", true)
  | 6 => ("HungPicturesModel", "seen", "I", false)
  | 7 => ("HungPicturesModel", "seenWhat", "[I", true)
  | 8 => ("HungPicturesModel", "seenNumber", "[I", true)
  | 9 => ("HungPicturesModel", "text", "[I", true)
  | 10 => ("HungPicturesModel", "letters", "I", false)
  | 11 => ("HungPicturesModel", "at", "I", false)
  | 12 => ("HungPicturesModel", "mark", "I", false)
  | 13 => ("HungPicturesModel", "hasWall", "Z", false)
  | 14 => ("HungPicturesModel", "order", "[I", true)
  | 15 => ("HungPicturesModel", "bestOrder", "[I", true)
  | 16 => ("HungPicturesModel", "best", "[I", true)
  | 17 => ("HungPicturesModel", "isFound", "Z", false)
  | 18 => ("HungPicturesModel", "fits", "[Z", true)
  | 19 => ("HungPicturesModel", "holed", "[Z", true)
  | _ => ("HungPicturesModel", "reach", "[I", true)
def tyX8 : Nat → FieldType := fun k => match k with
  | 0 => .array .int
  | 1 => .array .int
  | 2 => .array .int
  | 3 => .int
  | 4 => .array .int
  | 5 => .array .boolean
  | 6 => .int
  | 7 => .array .int
  | 8 => .array .int
  | 9 => .array .int
  | 10 => .int
  | 11 => .int
  | 12 => .int
  | 13 => .boolean
  | 14 => .array .int
  | 15 => .array .int
  | 16 => .array .int
  | 17 => .boolean
  | 18 => .array .boolean
  | 19 => .array .boolean
  | _ => .array .int
abbrev wsX80 : List Cond := u_ws RX8 TX8 21
theorem nmX8 : ∀ a, a < 21 → ∀ b, b < 21 → a ≠ b → (TX8 a).2.1 ≠ (TX8 b).2.1 := by decide +kernel
theorem tyX8_ok : ∀ k, k < 21 → parseFieldDescriptor (TX8 k).2.2.1 = some (tyX8 k) := by decide +kernel
abbrev cX8_init : ByteArray := prog_10_method_1_code
def yX8_init : MethodName := ⟨RX8, "<init>", "()V"⟩
abbrev cX8_within : ByteArray := prog_10_method_3_code
def yX8_within : MethodName := ⟨RX8, "within", "(III)Z"⟩
abbrev cX8_has : ByteArray := prog_10_method_4_code
def yX8_has : MethodName := ⟨RX8, "has", "(II)Z"⟩
abbrev cX8_bares : ByteArray := prog_10_method_5_code
def yX8_bares : MethodName := ⟨RX8, "bares", "([I)V"⟩
abbrev cX8_skips : ByteArray := prog_10_method_6_code
def yX8_skips : MethodName := ⟨RX8, "skips", "()V"⟩
abbrev cX8_isAt : ByteArray := prog_10_method_7_code
def yX8_isAt : MethodName := ⟨RX8, "isAt", "(II)Z"⟩
abbrev cX8_passesEnd : ByteArray := prog_10_method_8_code
def yX8_passesEnd : MethodName := ⟨RX8, "passesEnd", "()Z"⟩
abbrev cX8_puts : ByteArray := prog_10_method_9_code
def yX8_puts : MethodName := ⟨RX8, "puts", "(III)Z"⟩
abbrev cX8_spells : ByteArray := prog_10_method_10_code
def yX8_spells : MethodName := ⟨RX8, "spells", "(IIII)Z"⟩
abbrev cX8_readsWall : ByteArray := prog_10_method_11_code
def yX8_readsWall : MethodName := ⟨RX8, "readsWall", "()Z"⟩
abbrev cX8_readsPicture : ByteArray := prog_10_method_12_code
def yX8_readsPicture : MethodName := ⟨RX8, "readsPicture", "()Z"⟩
abbrev cX8_readsDoor : ByteArray := prog_10_method_13_code
def yX8_readsDoor : MethodName := ⟨RX8, "readsDoor", "()Z"⟩
abbrev cX8_readsHole : ByteArray := prog_10_method_14_code
def yX8_readsHole : MethodName := ⟨RX8, "readsHole", "()Z"⟩
abbrev cX8_readsItem : ByteArray := prog_10_method_15_code
def yX8_readsItem : MethodName := ⟨RX8, "readsItem", "()Z"⟩
abbrev cX8_reads : ByteArray := prog_10_method_16_code
def yX8_reads : MethodName := ⟨RX8, "reads", "()I"⟩
abbrev cX8_type : ByteArray := prog_10_method_17_code
def yX8_type : MethodName := ⟨RX8, "type", "(I)I"⟩
abbrev cX8_clear : ByteArray := prog_10_method_18_code
def yX8_clear : MethodName := ⟨RX8, "clear", "()I"⟩
abbrev cX8_keeps : ByteArray := prog_10_method_19_code
def yX8_keeps : MethodName := ⟨RX8, "keeps", "()V"⟩
abbrev cX8_tells : ByteArray := prog_10_method_20_code
def yX8_tells : MethodName := ⟨RX8, "tells", "()I"⟩
abbrev cX8_isPicture : ByteArray := prog_10_method_21_code
def yX8_isPicture : MethodName := ⟨RX8, "isPicture", "(I)Z"⟩
abbrev cX8_ofPicture : ByteArray := prog_10_method_22_code
def yX8_ofPicture : MethodName := ⟨RX8, "ofPicture", "(II)I"⟩
abbrev cX8_hookX : ByteArray := prog_10_method_23_code
def yX8_hookX : MethodName := ⟨RX8, "hookX", "(II)I"⟩
abbrev cX8_hookY : ByteArray := prog_10_method_24_code
def yX8_hookY : MethodName := ⟨RX8, "hookY", "(I)I"⟩
abbrev cX8_doesFit : ByteArray := prog_10_method_25_code
def yX8_doesFit : MethodName := ⟨RX8, "doesFit", "(II)Z"⟩
abbrev cX8_hangsNow : ByteArray := prog_10_method_26_code
def yX8_hangsNow : MethodName := ⟨RX8, "hangsNow", "(I)Z"⟩
abbrev cX8_isApart : ByteArray := prog_10_method_27_code
def yX8_isApart : MethodName := ⟨RX8, "isApart", "(II)Z"⟩
abbrev cX8_holeAt : ByteArray := prog_10_method_28_code
def yX8_holeAt : MethodName := ⟨RX8, "holeAt", "(II)I"⟩
abbrev cX8_hasHole : ByteArray := prog_10_method_29_code
def yX8_hasHole : MethodName := ⟨RX8, "hasHole", "(II)Z"⟩
abbrev cX8_hangingAt : ByteArray := prog_10_method_30_code
def yX8_hangingAt : MethodName := ⟨RX8, "hangingAt", "(I)I"⟩
abbrev cX8_hangs : ByteArray := prog_10_method_31_code
def yX8_hangs : MethodName := ⟨RX8, "hangs", "(II)I"⟩
abbrev cX8_takes : ByteArray := prog_10_method_32_code
def yX8_takes : MethodName := ⟨RX8, "takes", "(I)I"⟩
abbrev cX8_isHole : ByteArray := prog_10_method_33_code
def yX8_isHole : MethodName := ⟨RX8, "isHole", "(I)Z"⟩
abbrev cX8_fills : ByteArray := prog_10_method_34_code
def yX8_fills : MethodName := ⟨RX8, "fills", "(I)I"⟩
abbrev cX8_lines : ByteArray := prog_10_method_35_code
def yX8_lines : MethodName := ⟨RX8, "lines", "(I)I"⟩
abbrev cX8_undo : ByteArray := prog_10_method_36_code
def yX8_undo : MethodName := ⟨RX8, "undo", "()I"⟩
abbrev cX8_picture : ByteArray := prog_10_method_37_code
def yX8_picture : MethodName := ⟨RX8, "picture", "(II)I"⟩
abbrev cX8_hole : ByteArray := prog_10_method_38_code
def yX8_hole : MethodName := ⟨RX8, "hole", "(II)I"⟩
abbrev cX8_door : ByteArray := prog_10_method_39_code
def yX8_door : MethodName := ⟨RX8, "door", "(II)I"⟩
abbrev cX8_leanOf : ByteArray := prog_10_method_40_code
def yX8_leanOf : MethodName := ⟨RX8, "leanOf", "(II)I"⟩
abbrev cX8_momentNow : ByteArray := prog_10_method_41_code
def yX8_momentNow : MethodName := ⟨RX8, "momentNow", "()I"⟩
abbrev cX8_off : ByteArray := prog_10_method_42_code
def yX8_off : MethodName := ⟨RX8, "off", "(I)I"⟩
abbrev cX8_moment : ByteArray := prog_10_method_43_code
def yX8_moment : MethodName := ⟨RX8, "moment", "(I)I"⟩
abbrev cX8_laysPlaces : ByteArray := prog_10_method_44_code
def yX8_laysPlaces : MethodName := ⟨RX8, "laysPlaces", "()V"⟩
abbrev cX8_isOrder : ByteArray := prog_10_method_45_code
def yX8_isOrder : MethodName := ⟨RX8, "isOrder", "(I)Z"⟩
abbrev cX8_tries : ByteArray := prog_10_method_46_code
def yX8_tries : MethodName := ⟨RX8, "tries", "(II)V"⟩
abbrev cX8_findsBest : ByteArray := prog_10_method_47_code
def yX8_findsBest : MethodName := ⟨RX8, "findsBest", "()V"⟩
abbrev cX8_best : ByteArray := prog_10_method_48_code
def yX8_best : MethodName := ⟨RX8, "best", "(I)I"⟩
abbrev cX8_tellPlaces : ByteArray := prog_10_method_49_code
def yX8_tellPlaces : MethodName := ⟨RX8, "tellPlaces", "(II)I"⟩
abbrev cX8_places : ByteArray := prog_10_method_50_code
def yX8_places : MethodName := ⟨RX8, "places", "(II)I"⟩
abbrev cX8_reachOf : ByteArray := prog_10_method_51_code
def yX8_reachOf : MethodName := ⟨RX8, "reachOf", "(I)I"⟩
abbrev cX8_most : ByteArray := prog_10_method_52_code
def yX8_most : MethodName := ⟨RX8, "most", "()I"⟩
abbrev cX8_sees : ByteArray := prog_10_method_53_code
def yX8_sees : MethodName := ⟨RX8, "sees", "(II)I"⟩
abbrev cX8_forget : ByteArray := prog_10_method_54_code
def yX8_forget : MethodName := ⟨RX8, "forget", "()I"⟩
abbrev cX8_isSeen : ByteArray := prog_10_method_55_code
def yX8_isSeen : MethodName := ⟨RX8, "isSeen", "(I)Z"⟩
abbrev cX8_which : ByteArray := prog_10_method_56_code
def yX8_which : MethodName := ⟨RX8, "which", "(I)I"⟩
abbrev cX8_hanging : ByteArray := prog_10_method_57_code
def yX8_hanging : MethodName := ⟨RX8, "hanging", "()I"⟩
abbrev cX8_keep : ByteArray := prog_10_method_58_code
def yX8_keep : MethodName := ⟨RX8, "keep", "(I)I"⟩
abbrev cX8_back : ByteArray := prog_10_method_59_code
def yX8_back : MethodName := ⟨RX8, "back", "(I)I"⟩
abbrev cX8_count : ByteArray := prog_10_method_60_code
def yX8_count : MethodName := ⟨RX8, "count", "(I)I"⟩
def RJ6 : String := "java/lang/Integer"
def TJ6 : u_T := fun k => match k with
  | _ => ("", "", "", false)
def tyJ6 : Nat → FieldType := fun k => match k with
  | _ => .int
abbrev wsJ60 : List Cond := u_ws RJ6 TJ6 0
theorem nmJ6 : ∀ a, a < 0 → ∀ b, b < 0 → a ≠ b → (TJ6 a).2.1 ≠ (TJ6 b).2.1 := by decide +kernel
theorem tyJ6_ok : ∀ k, k < 0 → parseFieldDescriptor (TJ6 k).2.2.1 = some (tyJ6 k) := by decide +kernel
abbrev cJ6_bitCount_0f7a4 : ByteArray := prog_11_method_49_code
def yJ6_bitCount_0f7a4 : MethodName := ⟨RJ6, "bitCount", "(I)I"⟩
def RJ9 : String := "java/lang/Math"
def TJ9 : u_T := fun k => match k with
  | _ => ("", "", "", false)
def tyJ9 : Nat → FieldType := fun k => match k with
  | _ => .int
abbrev wsJ90 : List Cond := u_ws RJ9 TJ9 0
theorem nmJ9 : ∀ a, a < 0 → ∀ b, b < 0 → a ≠ b → (TJ9 a).2.1 ≠ (TJ9 b).2.1 := by decide +kernel
theorem tyJ9_ok : ∀ k, k < 0 → parseFieldDescriptor (TJ9 k).2.2.1 = some (tyJ9 k) := by decide +kernel
abbrev cJ9_abs_0f7a4 : ByteArray := prog_12_method_59_code
def yJ9_abs_0f7a4 : MethodName := ⟨RJ9, "abs", "(I)I"⟩
abbrev cJ9_max_7cf53 : ByteArray := prog_12_method_65_code
def yJ9_max_7cf53 : MethodName := ⟨RJ9, "max", "(II)I"⟩
abbrev cJ9_min_7cf53 : ByteArray := prog_12_method_69_code
def yJ9_min_7cf53 : MethodName := ⟨RJ9, "min", "(II)I"⟩
def RJ0 : String := "java/lang/String"
def TJ0 : u_T := fun k => match k with
  | _ => ("", "", "", false)
def tyJ0 : Nat → FieldType := fun k => match k with
  | _ => .int
abbrev wsJ00 : List Cond := u_ws RJ0 TJ0 0
theorem nmJ0 : ∀ a, a < 0 → ∀ b, b < 0 → a ≠ b → (TJ0 a).2.1 ≠ (TJ0 b).2.1 := by decide +kernel
theorem tyJ0_ok : ∀ k, k < 0 → parseFieldDescriptor (TJ0 k).2.2.1 = some (tyJ0 k) := by decide +kernel
abbrev cJ0_length_8abf5 : ByteArray := prog_13_method_54_code
def yJ0_length_8abf5 : MethodName := ⟨RJ0, "length", "()I"⟩
abbrev cJ0_charAt_5068e : ByteArray := prog_13_method_56_code
def yJ0_charAt_5068e : MethodName := ⟨RJ0, "charAt", "(I)C"⟩
abbrev cJ0_coder_7d493 : ByteArray := prog_13_method_152_code
def yJ0_coder_7d493 : MethodName := ⟨RJ0, "coder", "()B"⟩
abbrev cJ0_isLatin1_aae02 : ByteArray := prog_13_method_154_code
def yJ0_isLatin1_aae02 : MethodName := ⟨RJ0, "isLatin1", "()Z"⟩
abbrev cJ0_checkIndex_df160 : ByteArray := prog_13_method_155_code
def yJ0_checkIndex_df160 : MethodName := ⟨RJ0, "checkIndex", "(II)V"⟩
def RJ1 : String := "java/lang/StringLatin1"
def TJ1 : u_T := fun k => match k with
  | _ => ("", "", "", false)
def tyJ1 : Nat → FieldType := fun k => match k with
  | _ => .int
abbrev wsJ10 : List Cond := u_ws RJ1 TJ1 0
theorem nmJ1 : ∀ a, a < 0 → ∀ b, b < 0 → a ≠ b → (TJ1 a).2.1 ≠ (TJ1 b).2.1 := by decide +kernel
theorem tyJ1_ok : ∀ k, k < 0 → parseFieldDescriptor (TJ1 k).2.2.1 = some (tyJ1 k) := by decide +kernel
abbrev cJ1_charAt_3b067 : ByteArray := prog_14_method_2_code
def yJ1_charAt_3b067 : MethodName := ⟨RJ1, "charAt", "([BI)C"⟩
def RJ2 : String := "java/lang/StringUTF16"
def TJ2 : u_T := fun k => match k with
  | _ => ("", "", "", false)
def tyJ2 : Nat → FieldType := fun k => match k with
  | _ => .int
abbrev wsJ20 : List Cond := u_ws RJ2 TJ2 0
theorem nmJ2 : ∀ a, a < 0 → ∀ b, b < 0 → a ≠ b → (TJ2 a).2.1 ≠ (TJ2 b).2.1 := by decide +kernel
theorem tyJ2_ok : ∀ k, k < 0 → parseFieldDescriptor (TJ2 k).2.2.1 = some (tyJ2 k) := by decide +kernel
abbrev cJ2_getChar_3b067 : ByteArray := prog_15_method_5_code
def yJ2_getChar_3b067 : MethodName := ⟨RJ2, "getChar", "([BI)C"⟩
abbrev cJ2_length_9d52b : ByteArray := prog_15_method_6_code
def yJ2_length_9d52b : MethodName := ⟨RJ2, "length", "([B)I"⟩
abbrev cJ2_charAt_3b067 : ByteArray := prog_15_method_83_code
def yJ2_charAt_3b067 : MethodName := ⟨RJ2, "charAt", "([BI)C"⟩
abbrev cJ2_checkIndex_2214a : ByteArray := prog_15_method_91_code
def yJ2_checkIndex_2214a : MethodName := ⟨RJ2, "checkIndex", "(I[B)V"⟩
def RJ10 : String := "java/lang/System"
def TJ10 : u_T := fun k => match k with
  | _ => ("", "", "", false)
def tyJ10 : Nat → FieldType := fun k => match k with
  | _ => .int
abbrev wsJ100 : List Cond := u_ws RJ10 TJ10 0
theorem nmJ10 : ∀ a, a < 0 → ∀ b, b < 0 → a ≠ b → (TJ10 a).2.1 ≠ (TJ10 b).2.1 := by decide +kernel
theorem tyJ10_ok : ∀ k, k < 0 → parseFieldDescriptor (TJ10 k).2.2.1 = some (tyJ10 k) := by decide +kernel
def RJ3 : String := "jdk/internal/util/Preconditions"
def TJ3 : u_T := fun k => match k with
  | _ => ("", "", "", false)
def tyJ3 : Nat → FieldType := fun k => match k with
  | _ => .int
abbrev wsJ30 : List Cond := u_ws RJ3 TJ3 0
theorem nmJ3 : ∀ a, a < 0 → ∀ b, b < 0 → a ≠ b → (TJ3 a).2.1 ≠ (TJ3 b).2.1 := by decide +kernel
theorem tyJ3_ok : ∀ k, k < 0 → parseFieldDescriptor (TJ3 k).2.2.1 = some (tyJ3 k) := by decide +kernel
abbrev cJ3_checkIndex_8e157 : ByteArray := prog_17_method_11_code
def yJ3_checkIndex_8e157 : MethodName := ⟨RJ3, "checkIndex", "(IILjava/util/function/BiFunction;)I"⟩
def RL : String := "HungPicturesLaw"
abbrev cL_law : ByteArray := code
def yL_law : MethodName := ⟨RL, "law", "([I)Z"⟩
abbrev vwCl : List vw_C := [(RX0, TX0, 1), (RX1, TX1, 2), (RX2, TX2, 6), (RX3, TX3, 14), (RX4, TX4, 3), (RX5, TX5, 4), (RX6, TX6, 15), (RX7, TX7, 12), (RX8, TX8, 21)]
/-! END names -/
end
section
/-! The good words of the tables (those that a callee may be given), and each field, link and method by its place in them. -/
def am_g : List Cond := lw_tbl.filter goodWord
theorem am_ga {w : Cond} (h : w ∈ am_g) : w ∈ lw_tbl ∧ goodWord w = true := List.mem_filter.mp h
theorem am_gi {w : Cond} (i : Nat) (h : tables_1[i]? = some w) (hg : goodWord w = true) : w ∈ am_g := List.mem_filter.mpr ⟨List.mem_append_right _ (List.mem_of_getElem? h), hg⟩
theorem am_gs {y : MethodName} {n : Nat} (i : Nat) (h : lw_privs[i]? = some (y, n)) : Cond.selects y.cls y y ∈ am_g := List.mem_filter.mpr ⟨List.mem_append_left _ (List.mem_map.mpr ⟨(y, n), List.mem_of_getElem? h, rfl⟩), rfl⟩
theorem am_gl {ws : List Cond} (ps : List Nat) (hp : ws = ps.filterMap (fun i => tables_1[i]?)) (h : ws.all goodWord = true) : ∀ w ∈ ws, w ∈ am_g := by
  intro w hw
  have h1 := List.all_eq_true.mp h w hw
  rw [hp] at hw
  obtain ⟨i, -, hi⟩ := List.mem_filterMap.mp hw
  exact am_gi i hi h1
theorem inl0 : ∀ w ∈ u_ws RX0 TX0 1, w ∈ am_g := am_gl [237] (by decide +kernel) (by decide +kernel)
theorem inl1 : ∀ w ∈ u_ws RX1 TX1 2, w ∈ am_g := am_gl [175, 177] (by decide +kernel) (by decide +kernel)
theorem inl2 : ∀ w ∈ u_ws RX2 TX2 6, w ∈ am_g := am_gl [61, 63, 65, 67, 69, 71] (by decide +kernel) (by decide +kernel)
theorem inl3 : ∀ w ∈ u_ws RX3 TX3 14, w ∈ am_g := am_gl [200, 202, 204, 206, 208, 210, 212, 214, 216, 218, 220, 222, 224, 226] (by decide +kernel) (by decide +kernel)
theorem inl4 : ∀ w ∈ u_ws RX4 TX4 3, w ∈ am_g := am_gl [250, 252, 254] (by decide +kernel) (by decide +kernel)
theorem inl5 : ∀ w ∈ u_ws RX5 TX5 4, w ∈ am_g := am_gl [45, 47, 49, 51] (by decide +kernel) (by decide +kernel)
theorem inl6 : ∀ w ∈ u_ws RX6 TX6 15, w ∈ am_g := am_gl [132, 134, 136, 138, 140, 142, 144, 146, 148, 150, 152, 154, 156, 158, 160] (by decide +kernel) (by decide +kernel)
theorem inl7 : ∀ w ∈ u_ws RX7 TX7 12, w ∈ am_g := am_gl [269, 271, 273, 275, 277, 279, 281, 283, 285, 287, 289, 291] (by decide +kernel) (by decide +kernel)
theorem inl8 : ∀ w ∈ u_ws RX8 TX8 21, w ∈ am_g := am_gl [750, 752, 754, 756, 758, 760, 762, 764, 766, 768, 770, 772, 774, 776, 778, 780, 782, 784, 786, 788, 790] (by decide +kernel) (by decide +kernel)
def am_NF : List (String × Nat × String × String × String × String) := [(RX2, 55, RX5, "kinds", "[I", "HungPictures"), (RX2, 59, RX5, "places", "[I", "HungPictures"), (RX2, 62, RX5, "values", "[I", "HungPictures"), (RX2, 52, RX5, "size", "I", "HungPictures"), (RX3, 60, RX6, "width", "I", "HungPictures"), (RX2, 93, RX6, "width", "I", "HungPictures"), (RX7, 208, RX6, "width", "I", "HungPictures"), (RX2, 96, RX6, "line", "I", "HungPictures"), (RX7, 120, RX6, "line", "I", "HungPictures"), (RX0, 15, RX6, "gap", "I", "HungPictures"), (RX3, 88, RX6, "gap", "I", "HungPictures"), (RX2, 99, RX6, "gap", "I", "HungPictures"), (RX7, 211, RX6, "gap", "I", "HungPictures"), (RX0, 21, RX6, "pictures", "I", "HungPictures"), (RX4, 22, RX6, "pictures", "I", "HungPictures"), (RX3, 49, RX6, "pictures", "I", "HungPictures"), (RX2, 71, RX6, "pictures", "I", "HungPictures"), (RX7, 214, RX6, "pictures", "I", "HungPictures"), (RX2, 77, RX6, "doors", "I", "HungPictures"), (RX7, 217, RX6, "doors", "I", "HungPictures"), (RX7, 99, RX6, "holes", "I", "HungPictures"), (RX2, 83, RX6, "holes", "I", "HungPictures"), (RX0, 36, RX6, "wide", "[I", "HungPictures"), (RX3, 67, RX6, "wide", "[I", "HungPictures"), (RX4, 40, RX6, "wide", "[I", "HungPictures"), (RX7, 134, RX6, "wide", "[I", "HungPictures"), (RX4, 43, RX6, "tall", "[I", "HungPictures"), (RX7, 137, RX6, "tall", "[I", "HungPictures"), (RX7, 140, RX6, "drop", "[I", "HungPictures"), (RX0, 53, RX6, "weight", "[I", "HungPictures"), (RX4, 46, RX6, "weight", "[I", "HungPictures"), (RX7, 143, RX6, "weight", "[I", "HungPictures"), (RX7, 106, RX6, "at", "[I", "HungPictures"), (RX7, 158, RX6, "from", "[I", "HungPictures"), (RX7, 161, RX6, "to", "[I", "HungPictures"), (RX7, 149, RX6, "holeX", "[I", "HungPictures"), (RX7, 152, RX6, "holeY", "[I", "HungPictures"), (RX7, 130, RX1, "known", "I", "HungPictures"), (RX7, 193, RX4, "size", "I", "HungPictures")]
def am_NM : List (String × Nat × MethodName × String) := [(RX7, 19, yX2_init, "HungPictures"), (RX2, 11, yX5_init, "HungPictures"), (RX7, 26, yX6_init, "HungPictures"), (RX7, 36, yX1_init, "HungPictures"), (RX1, 17, yX6_init, "HungPictures"), (RX7, 43, yX3_init, "HungPictures"), (RX7, 54, yX0_init, "HungPictures"), (RX7, 61, yX4_init, "HungPictures"), (RX7, 74, yX2_readInto, "HungPictures"), (RX2, 18, yX5_cut, "HungPictures"), (RX2, 30, yX6_makeBare, "HungPictures"), (RX2, 102, yX6_addPicture, "HungPictures"), (RX2, 106, yX6_addDoor, "HungPictures"), (RX2, 110, yX6_findHole, "HungPictures"), (RX2, 114, yX6_addHole, "HungPictures"), (RX7, 220, yX1_add, "HungPictures"), (RX1, 25, yX6_copyFrom, "HungPictures"), (RX7, 81, yX6_copyFrom, "HungPictures"), (RX7, 85, yX6_hasPicture, "HungPictures"), (RX7, 89, yX6_isUp, "HungPictures"), (RX7, 92, yX6_isFreeFor, "HungPictures"), (RX7, 96, yX6_hasHoleFor, "HungPictures"), (RX7, 102, yX6_putUp, "HungPictures"), (RX7, 109, yX6_hasHole, "HungPictures"), (RX7, 112, yX6_findPictureOn, "HungPictures"), (RX7, 116, yX6_removeHole, "HungPictures"), (RX7, 123, yX6_takeAllDown, "HungPictures"), (RX7, 126, yX1_giveLatestTo, "HungPictures"), (RX7, 146, yX6_hookY, "HungPictures"), (RX7, 155, yX6_hasDoor, "HungPictures"), (RX7, 164, yX6_momentNow, "HungPictures"), (RX7, 173, yX3_search, "HungPictures"), (RX3, 77, yX6_hasPicture, "HungPictures"), (RX3, 81, yX6_fits, "HungPictures"), (RX3, 85, yX6_hasHoleFor, "HungPictures"), (RX3, 70, yX6_momentAt, "HungPictures"), (RX7, 176, yX3_answer, "HungPictures"), (RX7, 222, yX6_momentAt, "HungPictures"), (RX7, 189, yX0_largestSet, "HungPictures"), (RX0, 32, yX6_firstFit, "HungPictures"), (RX7, 196, yX4_add, "HungPictures"), (RX7, 199, yX4_countMatches, "HungPictures"), (RX4, 35, yX6_hasPicture, "HungPictures"), (RX4, 49, yX6_hookY, "HungPictures"), (RX7, 202, yX4_leastMatch, "HungPictures"), (RX7, 205, yX6_countUp, "HungPictures")]
def am_NW : List Cond := am_NF.map (fun q => Cond.fieldLinkNest q.1 q.2.1 q.2.2.1 q.2.2.2.1 q.2.2.2.2.1 q.2.2.2.2.2) ++ am_NM.map (fun q => Cond.methodLinkNest q.1 q.2.1 q.2.2.1 q.2.2.2)
theorem am_NW_on : ∀ w ∈ am_NW, w.onTables = true := by
  intro w h
  rcases List.mem_append.mp h with h | h
  · obtain ⟨q, -, rfl⟩ := List.mem_map.mp h
    rfl
  · obtain ⟨q, -, rfl⟩ := List.mem_map.mp h
    rfl
theorem am_NW_warm {s U : State} : ∀ w ∈ am_NW, s.WarmedH U.vm → va_Nw w s → va_Nw w U := by
  intro w h hW hz
  rcases List.mem_append.mp h with h | h
  · obtain ⟨q, -, rfl⟩ := List.mem_map.mp h
    exact va_Nw.warmF hW hz
  · obtain ⟨q, -, rfl⟩ := List.mem_map.mp h
    exact va_Nw.warmM hW hz
theorem am_nf {a : String} {i : Nat} {r n e t : String} (j : Nat) (h : am_NF[j]? = some (a, i, r, n, e, t)) : Cond.fieldLinkNest a i r n e t ∈ am_NW := List.mem_append_left _ (List.mem_map.mpr ⟨_, List.mem_of_getElem? h, rfl⟩)
theorem am_nm1 {a : String} {i : Nat} {y : MethodName} {t : String} (j : Nat) (h : am_NM[j]? = some (a, i, y, t)) : Cond.methodLinkNest a i y t ∈ am_NW := List.mem_append_right _ (List.mem_map.mpr ⟨_, List.mem_of_getElem? h, rfl⟩)
theorem am_tl {ws : List Cond} (ps : List Nat) (hp : ws = ps.filterMap (fun i => tables_1[i]?)) : ∀ w ∈ ws, w ∈ lw_tbl := by
  intro w hw
  rw [hp] at hw
  obtain ⟨i, -, hi⟩ := List.mem_filterMap.mp hw
  exact List.mem_append_right _ (List.mem_of_getElem? hi)
theorem am_NW_in : ∀ w ∈ am_NW, w ∈ lw_tbl := fun w h => (List.mem_append.mp h).elim (am_tl [38, 40, 42, 44, 85, 86, 87, 89, 90, 91, 93, 94, 95, 96, 98, 99, 100, 101, 103, 104, 106, 107, 109, 110, 111, 112, 114, 115, 117, 119, 120, 121, 123, 125, 127, 129, 131, 174, 249] (by decide +kernel) w) (am_tl [27, 33, 76, 165, 171, 182, 232, 242, 307, 311, 400, 421, 429, 437, 441, 453, 461, 468, 474, 478, 483, 495, 508, 522, 526, 531, 539, 547, 556, 565, 573, 588, 596, 597, 598, 599, 616, 640, 645, 653, 674, 686, 697, 699, 700, 708] (by decide +kernel) w)
def am_C (c : Nat) : String := match c with
  | 0 => RX0
  | 1 => RX1
  | 2 => RX2
  | 3 => RX3
  | 4 => RX4
  | 5 => RX5
  | 6 => RX6
  | 7 => RX7
  | _ => RX8
def am_T (c : Nat) : u_T := match c with
  | 0 => TX0
  | 1 => TX1
  | 2 => TX2
  | 3 => TX3
  | 4 => TX4
  | 5 => TX5
  | 6 => TX6
  | 7 => TX7
  | _ => TX8
def am_ty (c : Nat) : Nat → FieldType := match c with
  | 0 => tyX0
  | 1 => tyX1
  | 2 => tyX2
  | 3 => tyX3
  | 4 => tyX4
  | 5 => tyX5
  | 6 => tyX6
  | 7 => tyX7
  | _ => tyX8
def am_N (c : Nat) : Nat := match c with
  | 0 => 1
  | 1 => 2
  | 2 => 6
  | 3 => 14
  | 4 => 3
  | 5 => 4
  | 6 => 15
  | 7 => 12
  | _ => 21
def am_rf (c k : Nat) : Bool := match am_ty c k with
  | .object _ => true
  | .array _ => true
  | _ => false
abbrev am_M : Type := MethodName × ByteArray × Nat × Option FieldType
/-- the field k of class c, by an entry of own's pool; whether it holds a reference -/
def am_fl (own : String) (idx c k : Nat) : Prop := (Cond.fieldLink own idx (am_T c k).1 (am_T c k).2.1 (am_T c k).2.2.1 ∈ am_g) ∨ ∃ host, Cond.fieldLinkNest own idx (am_T c k).1 (am_T c k).2.1 (am_T c k).2.2.1 host ∈ am_NW
def am_F (own : String) (idx c k : Nat) (b : Bool) : Prop := c < 9 ∧ k < am_N c ∧ am_rf c k = b ∧ am_fl own idx c k
def am_lk (own : String) (idx : Nat) (y : MethodName) : Prop := (Cond.methodLink own idx y ∈ am_g) ∨ ∃ host, Cond.methodLinkNest own idx y host ∈ am_NW
/-- what is known of every method: its code's word, its class, its parameters -/
def am_m (μ : am_M) (n : Nat) : Prop := plainName μ.1.cls = true ∧ Cond.code μ.1 μ.2.1 μ.2.2.1 μ.2.2.2 ∈ am_g ∧ Cond.initialized μ.1.cls ∈ am_g ∧ (μ.1.cls ≠ "java/lang/invoke/MethodHandle" ∧ μ.1.cls ≠ "java/lang/invoke/VarHandle" ∧ (parseMethodDescriptor μ.1.desc).map (fun d => d.parameters.length) = some n) ∧ μ.2.2.1 ≤ 40
def am_mV (μ : am_M) (n c : Nat) : Prop := am_m μ n ∧ c < 9 ∧ μ.1.cls = am_C c ∧ Cond.instanceMethod μ.1 ∈ am_g ∧ Cond.selects μ.1.cls μ.1 μ.1 ∈ am_g
def am_mS (μ : am_M) (n : Nat) : Prop := am_m μ n ∧ Cond.static μ.1 ∈ am_g
def am_mI (μ : am_M) (n : Nat) : Prop := am_m μ n ∧ μ.1.name = "<init>" ∧ μ.2.2.2 = none ∧ Cond.instanceMethod μ.1 ∈ am_g
def am_nw (own : String) (idx c : Nat) : Prop := c < 9 ∧ Cond.classLink own idx (am_C c) ∈ am_g ∧ Cond.instantiable (am_C c) (am_N c) ∈ am_g ∧ Cond.initialized (am_C c) ∈ am_g
theorem fl5_11 : am_F RX5 11 5 0 true := ⟨by decide, by decide, by decide +kernel, Or.inl (am_gi 37 (by decide +kernel) rfl)⟩
theorem fl5_15 : am_F RX5 15 5 1 true := ⟨by decide, by decide, by decide +kernel, Or.inl (am_gi 39 (by decide +kernel) rfl)⟩
theorem fl5_18 : am_F RX5 18 5 2 true := ⟨by decide, by decide, by decide +kernel, Or.inl (am_gi 41 (by decide +kernel) rfl)⟩
theorem fl5_21 : am_F RX5 21 5 3 false := ⟨by decide, by decide, by decide +kernel, Or.inl (am_gi 43 (by decide +kernel) rfl)⟩
theorem fl2_12 : am_F RX2 12 2 0 true := ⟨by decide, by decide, by decide +kernel, Or.inl (am_gi 55 (by decide +kernel) rfl)⟩
theorem fl2_22 : am_F RX2 22 2 1 false := ⟨by decide, by decide, by decide +kernel, Or.inl (am_gi 56 (by decide +kernel) rfl)⟩
theorem fl2_38 : am_F RX2 38 2 2 false := ⟨by decide, by decide, by decide +kernel, Or.inl (am_gi 57 (by decide +kernel) rfl)⟩
theorem fl2_49 : am_F RX2 49 2 3 false := ⟨by decide, by decide, by decide +kernel, Or.inl (am_gi 58 (by decide +kernel) rfl)⟩
theorem fl2_65 : am_F RX2 65 2 4 false := ⟨by decide, by decide, by decide +kernel, Or.inl (am_gi 59 (by decide +kernel) rfl)⟩
theorem fl2_26 : am_F RX2 26 2 5 false := ⟨by decide, by decide, by decide +kernel, Or.inl (am_gi 60 (by decide +kernel) rfl)⟩
theorem fl6_42 : am_F RX6 42 6 0 false := ⟨by decide, by decide, by decide +kernel, Or.inl (am_gi 84 (by decide +kernel) rfl)⟩
theorem fl6_46 : am_F RX6 46 6 1 false := ⟨by decide, by decide, by decide +kernel, Or.inl (am_gi 88 (by decide +kernel) rfl)⟩
theorem fl6_49 : am_F RX6 49 6 2 false := ⟨by decide, by decide, by decide +kernel, Or.inl (am_gi 92 (by decide +kernel) rfl)⟩
theorem fl6_52 : am_F RX6 52 6 3 false := ⟨by decide, by decide, by decide +kernel, Or.inl (am_gi 97 (by decide +kernel) rfl)⟩
theorem fl6_55 : am_F RX6 55 6 4 false := ⟨by decide, by decide, by decide +kernel, Or.inl (am_gi 102 (by decide +kernel) rfl)⟩
theorem fl6_58 : am_F RX6 58 6 5 false := ⟨by decide, by decide, by decide +kernel, Or.inl (am_gi 105 (by decide +kernel) rfl)⟩
theorem fl6_9 : am_F RX6 9 6 6 true := ⟨by decide, by decide, by decide +kernel, Or.inl (am_gi 108 (by decide +kernel) rfl)⟩
theorem fl6_15 : am_F RX6 15 6 7 true := ⟨by decide, by decide, by decide +kernel, Or.inl (am_gi 113 (by decide +kernel) rfl)⟩
theorem fl6_18 : am_F RX6 18 6 8 true := ⟨by decide, by decide, by decide +kernel, Or.inl (am_gi 116 (by decide +kernel) rfl)⟩
theorem fl6_21 : am_F RX6 21 6 9 true := ⟨by decide, by decide, by decide +kernel, Or.inl (am_gi 118 (by decide +kernel) rfl)⟩
theorem fl6_24 : am_F RX6 24 6 10 true := ⟨by decide, by decide, by decide +kernel, Or.inl (am_gi 122 (by decide +kernel) rfl)⟩
theorem fl6_27 : am_F RX6 27 6 11 true := ⟨by decide, by decide, by decide +kernel, Or.inl (am_gi 124 (by decide +kernel) rfl)⟩
theorem fl6_30 : am_F RX6 30 6 12 true := ⟨by decide, by decide, by decide +kernel, Or.inl (am_gi 126 (by decide +kernel) rfl)⟩
theorem fl6_33 : am_F RX6 33 6 13 true := ⟨by decide, by decide, by decide +kernel, Or.inl (am_gi 128 (by decide +kernel) rfl)⟩
theorem fl6_36 : am_F RX6 36 6 14 true := ⟨by decide, by decide, by decide +kernel, Or.inl (am_gi 130 (by decide +kernel) rfl)⟩
theorem fl1_11 : am_F RX1 11 1 0 true := ⟨by decide, by decide, by decide +kernel, Or.inl (am_gi 172 (by decide +kernel) rfl)⟩
theorem fl1_18 : am_F RX1 18 1 1 false := ⟨by decide, by decide, by decide +kernel, Or.inl (am_gi 173 (by decide +kernel) rfl)⟩
theorem fl3_9 : am_F RX3 9 3 0 true := ⟨by decide, by decide, by decide +kernel, Or.inl (am_gi 186 (by decide +kernel) rfl)⟩
theorem fl3_15 : am_F RX3 15 3 1 true := ⟨by decide, by decide, by decide +kernel, Or.inl (am_gi 187 (by decide +kernel) rfl)⟩
theorem fl3_18 : am_F RX3 18 3 2 true := ⟨by decide, by decide, by decide +kernel, Or.inl (am_gi 188 (by decide +kernel) rfl)⟩
theorem fl3_22 : am_F RX3 22 3 3 true := ⟨by decide, by decide, by decide +kernel, Or.inl (am_gi 189 (by decide +kernel) rfl)⟩
theorem fl3_89 : am_F RX3 89 3 4 false := ⟨by decide, by decide, by decide +kernel, Or.inl (am_gi 190 (by decide +kernel) rfl)⟩
theorem fl3_92 : am_F RX3 92 3 5 false := ⟨by decide, by decide, by decide +kernel, Or.inl (am_gi 191 (by decide +kernel) rfl)⟩
theorem fl3_46 : am_F RX3 46 3 6 false := ⟨by decide, by decide, by decide +kernel, Or.inl (am_gi 192 (by decide +kernel) rfl)⟩
theorem fl3_54 : am_F RX3 54 3 7 false := ⟨by decide, by decide, by decide +kernel, Or.inl (am_gi 193 (by decide +kernel) rfl)⟩
theorem fl3_57 : am_F RX3 57 3 8 false := ⟨by decide, by decide, by decide +kernel, Or.inl (am_gi 194 (by decide +kernel) rfl)⟩
theorem fl3_25 : am_F RX3 25 3 9 false := ⟨by decide, by decide, by decide +kernel, Or.inl (am_gi 195 (by decide +kernel) rfl)⟩
theorem fl3_29 : am_F RX3 29 3 10 false := ⟨by decide, by decide, by decide +kernel, Or.inl (am_gi 196 (by decide +kernel) rfl)⟩
theorem fl3_33 : am_F RX3 33 3 11 false := ⟨by decide, by decide, by decide +kernel, Or.inl (am_gi 197 (by decide +kernel) rfl)⟩
theorem fl3_36 : am_F RX3 36 3 12 false := ⟨by decide, by decide, by decide +kernel, Or.inl (am_gi 198 (by decide +kernel) rfl)⟩
theorem fl3_39 : am_F RX3 39 3 13 false := ⟨by decide, by decide, by decide +kernel, Or.inl (am_gi 199 (by decide +kernel) rfl)⟩
theorem fl0_11 : am_F RX0 11 0 0 true := ⟨by decide, by decide, by decide +kernel, Or.inl (am_gi 236 (by decide +kernel) rfl)⟩
theorem fl4_9 : am_F RX4 9 4 0 true := ⟨by decide, by decide, by decide +kernel, Or.inl (am_gi 246 (by decide +kernel) rfl)⟩
theorem fl4_15 : am_F RX4 15 4 1 true := ⟨by decide, by decide, by decide +kernel, Or.inl (am_gi 247 (by decide +kernel) rfl)⟩
theorem fl4_18 : am_F RX4 18 4 2 false := ⟨by decide, by decide, by decide +kernel, Or.inl (am_gi 248 (by decide +kernel) rfl)⟩
theorem fl7_9 : am_F RX7 9 7 0 true := ⟨by decide, by decide, by decide +kernel, Or.inl (am_gi 257 (by decide +kernel) rfl)⟩
theorem fl7_13 : am_F RX7 13 7 1 false := ⟨by decide, by decide, by decide +kernel, Or.inl (am_gi 258 (by decide +kernel) rfl)⟩
theorem fl7_20 : am_F RX7 20 7 2 true := ⟨by decide, by decide, by decide +kernel, Or.inl (am_gi 259 (by decide +kernel) rfl)⟩
theorem fl7_27 : am_F RX7 27 7 3 true := ⟨by decide, by decide, by decide +kernel, Or.inl (am_gi 260 (by decide +kernel) rfl)⟩
theorem fl7_31 : am_F RX7 31 7 4 true := ⟨by decide, by decide, by decide +kernel, Or.inl (am_gi 261 (by decide +kernel) rfl)⟩
theorem fl7_37 : am_F RX7 37 7 5 true := ⟨by decide, by decide, by decide +kernel, Or.inl (am_gi 262 (by decide +kernel) rfl)⟩
theorem fl7_44 : am_F RX7 44 7 6 true := ⟨by decide, by decide, by decide +kernel, Or.inl (am_gi 263 (by decide +kernel) rfl)⟩
theorem fl7_48 : am_F RX7 48 7 7 false := ⟨by decide, by decide, by decide +kernel, Or.inl (am_gi 264 (by decide +kernel) rfl)⟩
theorem fl7_55 : am_F RX7 55 7 8 true := ⟨by decide, by decide, by decide +kernel, Or.inl (am_gi 265 (by decide +kernel) rfl)⟩
theorem fl7_62 : am_F RX7 62 7 9 true := ⟨by decide, by decide, by decide +kernel, Or.inl (am_gi 266 (by decide +kernel) rfl)⟩
theorem fl7_66 : am_F RX7 66 7 10 true := ⟨by decide, by decide, by decide +kernel, Or.inl (am_gi 267 (by decide +kernel) rfl)⟩
theorem fl7_70 : am_F RX7 70 7 11 true := ⟨by decide, by decide, by decide +kernel, Or.inl (am_gi 268 (by decide +kernel) rfl)⟩
theorem fl8_7 : am_F RX8 7 8 0 true := ⟨by decide, by decide, by decide +kernel, Or.inl (am_gi 729 (by decide +kernel) rfl)⟩
theorem fl8_13 : am_F RX8 13 8 1 true := ⟨by decide, by decide, by decide +kernel, Or.inl (am_gi 730 (by decide +kernel) rfl)⟩
theorem fl8_16 : am_F RX8 16 8 2 true := ⟨by decide, by decide, by decide +kernel, Or.inl (am_gi 731 (by decide +kernel) rfl)⟩
theorem fl8_108 : am_F RX8 108 8 3 false := ⟨by decide, by decide, by decide +kernel, Or.inl (am_gi 732 (by decide +kernel) rfl)⟩
theorem fl8_19 : am_F RX8 19 8 4 true := ⟨by decide, by decide, by decide +kernel, Or.inl (am_gi 733 (by decide +kernel) rfl)⟩
theorem fl8_22 : am_F RX8 22 8 5 true := ⟨by decide, by decide, by decide +kernel, Or.inl (am_gi 734 (by decide +kernel) rfl)⟩
theorem fl8_189 : am_F RX8 189 8 6 false := ⟨by decide, by decide, by decide +kernel, Or.inl (am_gi 735 (by decide +kernel) rfl)⟩
theorem fl8_26 : am_F RX8 26 8 7 true := ⟨by decide, by decide, by decide +kernel, Or.inl (am_gi 736 (by decide +kernel) rfl)⟩
theorem fl8_29 : am_F RX8 29 8 8 true := ⟨by decide, by decide, by decide +kernel, Or.inl (am_gi 737 (by decide +kernel) rfl)⟩
theorem fl8_32 : am_F RX8 32 8 9 true := ⟨by decide, by decide, by decide +kernel, Or.inl (am_gi 738 (by decide +kernel) rfl)⟩
theorem fl8_61 : am_F RX8 61 8 10 false := ⟨by decide, by decide, by decide +kernel, Or.inl (am_gi 739 (by decide +kernel) rfl)⟩
theorem fl8_57 : am_F RX8 57 8 11 false := ⟨by decide, by decide, by decide +kernel, Or.inl (am_gi 740 (by decide +kernel) rfl)⟩
theorem fl8_64 : am_F RX8 64 8 12 false := ⟨by decide, by decide, by decide +kernel, Or.inl (am_gi 741 (by decide +kernel) rfl)⟩
theorem fl8_78 : am_F RX8 78 8 13 false := ⟨by decide, by decide, by decide +kernel, Or.inl (am_gi 742 (by decide +kernel) rfl)⟩
theorem fl8_35 : am_F RX8 35 8 14 true := ⟨by decide, by decide, by decide +kernel, Or.inl (am_gi 743 (by decide +kernel) rfl)⟩
theorem fl8_38 : am_F RX8 38 8 15 true := ⟨by decide, by decide, by decide +kernel, Or.inl (am_gi 744 (by decide +kernel) rfl)⟩
theorem fl8_41 : am_F RX8 41 8 16 true := ⟨by decide, by decide, by decide +kernel, Or.inl (am_gi 745 (by decide +kernel) rfl)⟩
theorem fl8_164 : am_F RX8 164 8 17 false := ⟨by decide, by decide, by decide +kernel, Or.inl (am_gi 746 (by decide +kernel) rfl)⟩
theorem fl8_44 : am_F RX8 44 8 18 true := ⟨by decide, by decide, by decide +kernel, Or.inl (am_gi 747 (by decide +kernel) rfl)⟩
theorem fl8_47 : am_F RX8 47 8 19 true := ⟨by decide, by decide, by decide +kernel, Or.inl (am_gi 748 (by decide +kernel) rfl)⟩
theorem fl8_50 : am_F RX8 50 8 20 true := ⟨by decide, by decide, by decide +kernel, Or.inl (am_gi 749 (by decide +kernel) rfl)⟩
theorem fl2_55 : am_F RX2 55 5 0 true := ⟨by decide, by decide, by decide +kernel, Or.inr ⟨"HungPictures", am_nf 0 rfl⟩⟩
theorem fl2_59 : am_F RX2 59 5 1 true := ⟨by decide, by decide, by decide +kernel, Or.inr ⟨"HungPictures", am_nf 1 rfl⟩⟩
theorem fl2_62 : am_F RX2 62 5 2 true := ⟨by decide, by decide, by decide +kernel, Or.inr ⟨"HungPictures", am_nf 2 rfl⟩⟩
theorem fl2_52 : am_F RX2 52 5 3 false := ⟨by decide, by decide, by decide +kernel, Or.inr ⟨"HungPictures", am_nf 3 rfl⟩⟩
theorem fl3_60 : am_F RX3 60 6 0 false := ⟨by decide, by decide, by decide +kernel, Or.inr ⟨"HungPictures", am_nf 4 rfl⟩⟩
theorem fl2_93 : am_F RX2 93 6 0 false := ⟨by decide, by decide, by decide +kernel, Or.inr ⟨"HungPictures", am_nf 5 rfl⟩⟩
theorem fl7_208 : am_F RX7 208 6 0 false := ⟨by decide, by decide, by decide +kernel, Or.inr ⟨"HungPictures", am_nf 6 rfl⟩⟩
theorem fl2_96 : am_F RX2 96 6 1 false := ⟨by decide, by decide, by decide +kernel, Or.inr ⟨"HungPictures", am_nf 7 rfl⟩⟩
theorem fl7_120 : am_F RX7 120 6 1 false := ⟨by decide, by decide, by decide +kernel, Or.inr ⟨"HungPictures", am_nf 8 rfl⟩⟩
theorem fl0_15 : am_F RX0 15 6 2 false := ⟨by decide, by decide, by decide +kernel, Or.inr ⟨"HungPictures", am_nf 9 rfl⟩⟩
theorem fl3_88 : am_F RX3 88 6 2 false := ⟨by decide, by decide, by decide +kernel, Or.inr ⟨"HungPictures", am_nf 10 rfl⟩⟩
theorem fl2_99 : am_F RX2 99 6 2 false := ⟨by decide, by decide, by decide +kernel, Or.inr ⟨"HungPictures", am_nf 11 rfl⟩⟩
theorem fl7_211 : am_F RX7 211 6 2 false := ⟨by decide, by decide, by decide +kernel, Or.inr ⟨"HungPictures", am_nf 12 rfl⟩⟩
theorem fl0_21 : am_F RX0 21 6 3 false := ⟨by decide, by decide, by decide +kernel, Or.inr ⟨"HungPictures", am_nf 13 rfl⟩⟩
theorem fl4_22 : am_F RX4 22 6 3 false := ⟨by decide, by decide, by decide +kernel, Or.inr ⟨"HungPictures", am_nf 14 rfl⟩⟩
theorem fl3_49 : am_F RX3 49 6 3 false := ⟨by decide, by decide, by decide +kernel, Or.inr ⟨"HungPictures", am_nf 15 rfl⟩⟩
theorem fl2_71 : am_F RX2 71 6 3 false := ⟨by decide, by decide, by decide +kernel, Or.inr ⟨"HungPictures", am_nf 16 rfl⟩⟩
theorem fl7_214 : am_F RX7 214 6 3 false := ⟨by decide, by decide, by decide +kernel, Or.inr ⟨"HungPictures", am_nf 17 rfl⟩⟩
theorem fl2_77 : am_F RX2 77 6 4 false := ⟨by decide, by decide, by decide +kernel, Or.inr ⟨"HungPictures", am_nf 18 rfl⟩⟩
theorem fl7_217 : am_F RX7 217 6 4 false := ⟨by decide, by decide, by decide +kernel, Or.inr ⟨"HungPictures", am_nf 19 rfl⟩⟩
theorem fl7_99 : am_F RX7 99 6 5 false := ⟨by decide, by decide, by decide +kernel, Or.inr ⟨"HungPictures", am_nf 20 rfl⟩⟩
theorem fl2_83 : am_F RX2 83 6 5 false := ⟨by decide, by decide, by decide +kernel, Or.inr ⟨"HungPictures", am_nf 21 rfl⟩⟩
theorem fl0_36 : am_F RX0 36 6 6 true := ⟨by decide, by decide, by decide +kernel, Or.inr ⟨"HungPictures", am_nf 22 rfl⟩⟩
theorem fl3_67 : am_F RX3 67 6 6 true := ⟨by decide, by decide, by decide +kernel, Or.inr ⟨"HungPictures", am_nf 23 rfl⟩⟩
theorem fl4_40 : am_F RX4 40 6 6 true := ⟨by decide, by decide, by decide +kernel, Or.inr ⟨"HungPictures", am_nf 24 rfl⟩⟩
theorem fl7_134 : am_F RX7 134 6 6 true := ⟨by decide, by decide, by decide +kernel, Or.inr ⟨"HungPictures", am_nf 25 rfl⟩⟩
theorem fl4_43 : am_F RX4 43 6 7 true := ⟨by decide, by decide, by decide +kernel, Or.inr ⟨"HungPictures", am_nf 26 rfl⟩⟩
theorem fl7_137 : am_F RX7 137 6 7 true := ⟨by decide, by decide, by decide +kernel, Or.inr ⟨"HungPictures", am_nf 27 rfl⟩⟩
theorem fl7_140 : am_F RX7 140 6 8 true := ⟨by decide, by decide, by decide +kernel, Or.inr ⟨"HungPictures", am_nf 28 rfl⟩⟩
theorem fl0_53 : am_F RX0 53 6 9 true := ⟨by decide, by decide, by decide +kernel, Or.inr ⟨"HungPictures", am_nf 29 rfl⟩⟩
theorem fl4_46 : am_F RX4 46 6 9 true := ⟨by decide, by decide, by decide +kernel, Or.inr ⟨"HungPictures", am_nf 30 rfl⟩⟩
theorem fl7_143 : am_F RX7 143 6 9 true := ⟨by decide, by decide, by decide +kernel, Or.inr ⟨"HungPictures", am_nf 31 rfl⟩⟩
theorem fl7_106 : am_F RX7 106 6 10 true := ⟨by decide, by decide, by decide +kernel, Or.inr ⟨"HungPictures", am_nf 32 rfl⟩⟩
theorem fl7_158 : am_F RX7 158 6 11 true := ⟨by decide, by decide, by decide +kernel, Or.inr ⟨"HungPictures", am_nf 33 rfl⟩⟩
theorem fl7_161 : am_F RX7 161 6 12 true := ⟨by decide, by decide, by decide +kernel, Or.inr ⟨"HungPictures", am_nf 34 rfl⟩⟩
theorem fl7_149 : am_F RX7 149 6 13 true := ⟨by decide, by decide, by decide +kernel, Or.inr ⟨"HungPictures", am_nf 35 rfl⟩⟩
theorem fl7_152 : am_F RX7 152 6 14 true := ⟨by decide, by decide, by decide +kernel, Or.inr ⟨"HungPictures", am_nf 36 rfl⟩⟩
theorem fl7_130 : am_F RX7 130 1 1 false := ⟨by decide, by decide, by decide +kernel, Or.inr ⟨"HungPictures", am_nf 37 rfl⟩⟩
theorem fl7_193 : am_F RX7 193 4 2 false := ⟨by decide, by decide, by decide +kernel, Or.inr ⟨"HungPictures", am_nf 38 rfl⟩⟩
def m7_init : am_M := (yX7_init, cX7_init, 2, none)
theorem m7_init_I : am_mI m7_init 0 := ⟨⟨by decide, am_gi 21 (by decide +kernel) rfl, am_gi 1 (by decide +kernel) rfl, by decide +kernel, by decide⟩, rfl, rfl, am_gi 20 (by decide +kernel) rfl⟩
def m2_init : am_M := (yX2_init, cX2_init, 1, none)
theorem m2_init_I : am_mI m2_init 0 := ⟨⟨by decide, am_gi 29 (by decide +kernel) rfl, am_gi 2 (by decide +kernel) rfl, by decide +kernel, by decide⟩, rfl, rfl, am_gi 28 (by decide +kernel) rfl⟩
def m5_init : am_M := (yX5_init, cX5_init, 1, none)
theorem m5_init_I : am_mI m5_init 0 := ⟨⟨by decide, am_gi 35 (by decide +kernel) rfl, am_gi 3 (by decide +kernel) rfl, by decide +kernel, by decide⟩, rfl, rfl, am_gi 34 (by decide +kernel) rfl⟩
def m6_init : am_M := (yX6_init, cX6_init, 1, none)
theorem m6_init_I : am_mI m6_init 0 := ⟨⟨by decide, am_gi 78 (by decide +kernel) rfl, am_gi 4 (by decide +kernel) rfl, by decide +kernel, by decide⟩, rfl, rfl, am_gi 77 (by decide +kernel) rfl⟩
def m6_makeBare : am_M := (yX6_makeBare, cX6_makeBare, 1, none)
theorem m6_makeBare_V : am_mV m6_makeBare 0 6 := ⟨⟨by decide, am_gi 83 (by decide +kernel) rfl, am_gi 4 (by decide +kernel) rfl, by decide +kernel, by decide⟩, by decide, rfl, am_gi 82 (by decide +kernel) rfl, am_gs (n := 15) 0 (by decide +kernel)⟩
def m1_init : am_M := (yX1_init, cX1_init, 2, none)
theorem m1_init_I : am_mI m1_init 0 := ⟨⟨by decide, am_gi 167 (by decide +kernel) rfl, am_gi 5 (by decide +kernel) rfl, by decide +kernel, by decide⟩, rfl, rfl, am_gi 166 (by decide +kernel) rfl⟩
def m3_init : am_M := (yX3_init, cX3_init, 1, none)
theorem m3_init_I : am_mI m3_init 0 := ⟨⟨by decide, am_gi 184 (by decide +kernel) rfl, am_gi 6 (by decide +kernel) rfl, by decide +kernel, by decide⟩, rfl, rfl, am_gi 183 (by decide +kernel) rfl⟩
def m0_init : am_M := (yX0_init, cX0_init, 1, none)
theorem m0_init_I : am_mI m0_init 0 := ⟨⟨by decide, am_gi 234 (by decide +kernel) rfl, am_gi 7 (by decide +kernel) rfl, by decide +kernel, by decide⟩, rfl, rfl, am_gi 233 (by decide +kernel) rfl⟩
def m4_init : am_M := (yX4_init, cX4_init, 1, none)
theorem m4_init_I : am_mI m4_init 0 := ⟨⟨by decide, am_gi 244 (by decide +kernel) rfl, am_gi 8 (by decide +kernel) rfl, by decide +kernel, by decide⟩, rfl, rfl, am_gi 243 (by decide +kernel) rfl⟩
def m7_type : am_M := (yX7_type, cX7_type, 2, (some .int))
theorem m7_type_V : am_mV m7_type 1 7 := ⟨⟨by decide, am_gi 298 (by decide +kernel) rfl, am_gi 1 (by decide +kernel) rfl, by decide +kernel, by decide⟩, by decide, rfl, am_gi 296 (by decide +kernel) rfl, am_gi 297 (by decide +kernel) rfl⟩
def m7_clear : am_M := (yX7_clear, cX7_clear, 2, (some .int))
theorem m7_clear_V : am_mV m7_clear 0 7 := ⟨⟨by decide, am_gi 302 (by decide +kernel) rfl, am_gi 1 (by decide +kernel) rfl, by decide +kernel, by decide⟩, by decide, rfl, am_gi 300 (by decide +kernel) rfl, am_gi 301 (by decide +kernel) rfl⟩
def m7_tells : am_M := (yX7_tells, cX7_tells, 2, (some .int))
theorem m7_tells_V : am_mV m7_tells 0 7 := ⟨⟨by decide, am_gi 306 (by decide +kernel) rfl, am_gi 1 (by decide +kernel) rfl, by decide +kernel, by decide⟩, by decide, rfl, am_gi 304 (by decide +kernel) rfl, am_gi 305 (by decide +kernel) rfl⟩
def m2_readInto : am_M := (yX2_readInto, cX2_readInto, 5, (some .int))
theorem m2_readInto_V : am_mV m2_readInto 3 2 := ⟨⟨by decide, am_gi 310 (by decide +kernel) rfl, am_gi 2 (by decide +kernel) rfl, by decide +kernel, by decide⟩, by decide, rfl, am_gi 309 (by decide +kernel) rfl, am_gs (n := 6) 1 (by decide +kernel)⟩
def m5_cut : am_M := (yX5_cut, cX5_cut, 5, none)
theorem m5_cut_V : am_mV m5_cut 2 5 := ⟨⟨by decide, am_gi 314 (by decide +kernel) rfl, am_gi 3 (by decide +kernel) rfl, by decide +kernel, by decide⟩, by decide, rfl, am_gi 313 (by decide +kernel) rfl, am_gs (n := 4) 2 (by decide +kernel)⟩
def m5_endOfToken : am_M := (yX5_endOfToken, cX5_endOfToken, 5, (some .int))
theorem m5_endOfToken_S : am_mS m5_endOfToken 3 := ⟨⟨by decide, am_gi 317 (by decide +kernel) rfl, am_gi 3 (by decide +kernel) rfl, by decide +kernel, by decide⟩, am_gi 316 (by decide +kernel) rfl⟩
def m5_sortAt : am_M := (yX5_sortAt, cX5_sortAt, 3, (some .int))
theorem m5_sortAt_S : am_mS m5_sortAt 2 := ⟨⟨by decide, am_gi 320 (by decide +kernel) rfl, am_gi 3 (by decide +kernel) rfl, by decide +kernel, by decide⟩, am_gi 319 (by decide +kernel) rfl⟩
def m5_kindOf : am_M := (yX5_kindOf, cX5_kindOf, 3, (some .int))
theorem m5_kindOf_S : am_mS m5_kindOf 3 := ⟨⟨by decide, am_gi 323 (by decide +kernel) rfl, am_gi 3 (by decide +kernel) rfl, by decide +kernel, by decide⟩, am_gi 322 (by decide +kernel) rfl⟩
def m5_kindOfFigures : am_M := (yX5_kindOfFigures, cX5_kindOfFigures, 4, (some .int))
theorem m5_kindOfFigures_S : am_mS m5_kindOfFigures 3 := ⟨⟨by decide, am_gi 326 (by decide +kernel) rfl, am_gi 3 (by decide +kernel) rfl, by decide +kernel, by decide⟩, am_gi 325 (by decide +kernel) rfl⟩
def m5_spells : am_M := (yX5_spells, cX5_spells, 5, (some .boolean))
theorem m5_spells_S : am_mS m5_spells 4 := ⟨⟨by decide, am_gi 330 (by decide +kernel) rfl, am_gi 3 (by decide +kernel) rfl, by decide +kernel, by decide⟩, am_gi 329 (by decide +kernel) rfl⟩
def j0_length_8abf5 : am_M := (yJ0_length_8abf5, cJ0_length_8abf5, 1, (some .int))
def j0_coder_7d493 : am_M := (yJ0_coder_7d493, cJ0_coder_7d493, 1, (some .byte))
def j0_charAt_5068e : am_M := (yJ0_charAt_5068e, cJ0_charAt_5068e, 2, (some .char))
def j0_isLatin1_aae02 : am_M := (yJ0_isLatin1_aae02, cJ0_isLatin1_aae02, 1, (some .boolean))
def j1_charAt_3b067 : am_M := (yJ1_charAt_3b067, cJ1_charAt_3b067, 2, (some .char))
theorem j1_charAt_3b067_S : am_mS j1_charAt_3b067 2 := ⟨⟨by decide, am_gi 351 (by decide +kernel) rfl, am_gi 11 (by decide +kernel) rfl, by decide +kernel, by decide⟩, am_gi 350 (by decide +kernel) rfl⟩
def j0_checkIndex_df160 : am_M := (yJ0_checkIndex_df160, cJ0_checkIndex_df160, 2, none)
theorem j0_checkIndex_df160_S : am_mS j0_checkIndex_df160 2 := ⟨⟨by decide, am_gi 354 (by decide +kernel) rfl, am_gi 10 (by decide +kernel) rfl, by decide +kernel, by decide⟩, am_gi 353 (by decide +kernel) rfl⟩
def j3_checkIndex_8e157 : am_M := (yJ3_checkIndex_8e157, cJ3_checkIndex_8e157, 3, (some .int))
theorem j3_checkIndex_8e157_S : am_mS j3_checkIndex_8e157 3 := ⟨⟨by decide, am_gi 359 (by decide +kernel) rfl, am_gi 12 (by decide +kernel) rfl, by decide +kernel, by decide⟩, am_gi 358 (by decide +kernel) rfl⟩
def j2_charAt_3b067 : am_M := (yJ2_charAt_3b067, cJ2_charAt_3b067, 2, (some .char))
theorem j2_charAt_3b067_S : am_mS j2_charAt_3b067 2 := ⟨⟨by decide, am_gi 362 (by decide +kernel) rfl, am_gi 13 (by decide +kernel) rfl, by decide +kernel, by decide⟩, am_gi 361 (by decide +kernel) rfl⟩
def j2_checkIndex_2214a : am_M := (yJ2_checkIndex_2214a, cJ2_checkIndex_2214a, 2, none)
theorem j2_checkIndex_2214a_S : am_mS j2_checkIndex_2214a 2 := ⟨⟨by decide, am_gi 365 (by decide +kernel) rfl, am_gi 13 (by decide +kernel) rfl, by decide +kernel, by decide⟩, am_gi 364 (by decide +kernel) rfl⟩
def j2_length_9d52b : am_M := (yJ2_length_9d52b, cJ2_length_9d52b, 1, (some .int))
theorem j2_length_9d52b_S : am_mS j2_length_9d52b 1 := ⟨⟨by decide, am_gi 368 (by decide +kernel) rfl, am_gi 13 (by decide +kernel) rfl, by decide +kernel, by decide⟩, am_gi 367 (by decide +kernel) rfl⟩
def j2_getChar_3b067 : am_M := (yJ2_getChar_3b067, cJ2_getChar_3b067, 2, (some .char))
theorem j2_getChar_3b067_S : am_mS j2_getChar_3b067 2 := ⟨⟨by decide, am_gi 372 (by decide +kernel) rfl, am_gi 13 (by decide +kernel) rfl, by decide +kernel, by decide⟩, am_gi 371 (by decide +kernel) rfl⟩
def m5_valueOf : am_M := (yX5_valueOf, cX5_valueOf, 5, (some .int))
theorem m5_valueOf_S : am_mS m5_valueOf 3 := ⟨⟨by decide, am_gi 381 (by decide +kernel) rfl, am_gi 3 (by decide +kernel) rfl, by decide +kernel, by decide⟩, am_gi 380 (by decide +kernel) rfl⟩
def m5_kindOfWord : am_M := (yX5_kindOfWord, cX5_kindOfWord, 3, (some .int))
theorem m5_kindOfWord_S : am_mS m5_kindOfWord 3 := ⟨⟨by decide, am_gi 387 (by decide +kernel) rfl, am_gi 3 (by decide +kernel) rfl, by decide +kernel, by decide⟩, am_gi 386 (by decide +kernel) rfl⟩
def m5_add : am_M := (yX5_add, cX5_add, 4, none)
theorem m5_add_V : am_mV m5_add 3 5 := ⟨⟨by decide, am_gi 396 (by decide +kernel) rfl, am_gi 3 (by decide +kernel) rfl, by decide +kernel, by decide⟩, by decide, rfl, am_gi 395 (by decide +kernel) rfl, am_gs (n := 4) 3 (by decide +kernel)⟩
def m2_readToken : am_M := (yX2_readToken, cX2_readToken, 1, none)
theorem m2_readToken_V : am_mV m2_readToken 0 2 := ⟨⟨by decide, am_gi 404 (by decide +kernel) rfl, am_gi 2 (by decide +kernel) rfl, by decide +kernel, by decide⟩, by decide, rfl, am_gi 403 (by decide +kernel) rfl, am_gs (n := 6) 4 (by decide +kernel)⟩
def m2_readItem : am_M := (yX2_readItem, cX2_readItem, 2, (some .boolean))
theorem m2_readItem_V : am_mV m2_readItem 1 2 := ⟨⟨by decide, am_gi 408 (by decide +kernel) rfl, am_gi 2 (by decide +kernel) rfl, by decide +kernel, by decide⟩, by decide, rfl, am_gi 407 (by decide +kernel) rfl, am_gs (n := 6) 5 (by decide +kernel)⟩
def m2_readWall : am_M := (yX2_readWall, cX2_readWall, 2, (some .boolean))
theorem m2_readWall_V : am_mV m2_readWall 1 2 := ⟨⟨by decide, am_gi 412 (by decide +kernel) rfl, am_gi 2 (by decide +kernel) rfl, by decide +kernel, by decide⟩, by decide, rfl, am_gi 411 (by decide +kernel) rfl, am_gs (n := 6) 6 (by decide +kernel)⟩
def m2_readNumber : am_M := (yX2_readNumber, cX2_readNumber, 3, (some .boolean))
theorem m2_readNumber_V : am_mV m2_readNumber 2 2 := ⟨⟨by decide, am_gi 416 (by decide +kernel) rfl, am_gi 2 (by decide +kernel) rfl, by decide +kernel, by decide⟩, by decide, rfl, am_gi 415 (by decide +kernel) rfl, am_gs (n := 6) 7 (by decide +kernel)⟩
def m2_readPicture : am_M := (yX2_readPicture, cX2_readPicture, 5, (some .boolean))
theorem m2_readPicture_V : am_mV m2_readPicture 1 2 := ⟨⟨by decide, am_gi 420 (by decide +kernel) rfl, am_gi 2 (by decide +kernel) rfl, by decide +kernel, by decide⟩, by decide, rfl, am_gi 419 (by decide +kernel) rfl, am_gs (n := 6) 8 (by decide +kernel)⟩
def m6_addPicture : am_M := (yX6_addPicture, cX6_addPicture, 5, none)
theorem m6_addPicture_V : am_mV m6_addPicture 4 6 := ⟨⟨by decide, am_gi 424 (by decide +kernel) rfl, am_gi 4 (by decide +kernel) rfl, by decide +kernel, by decide⟩, by decide, rfl, am_gi 423 (by decide +kernel) rfl, am_gs (n := 15) 9 (by decide +kernel)⟩
def m2_readDoor : am_M := (yX2_readDoor, cX2_readDoor, 3, (some .boolean))
theorem m2_readDoor_V : am_mV m2_readDoor 1 2 := ⟨⟨by decide, am_gi 428 (by decide +kernel) rfl, am_gi 2 (by decide +kernel) rfl, by decide +kernel, by decide⟩, by decide, rfl, am_gi 427 (by decide +kernel) rfl, am_gs (n := 6) 10 (by decide +kernel)⟩
def m6_addDoor : am_M := (yX6_addDoor, cX6_addDoor, 3, none)
theorem m6_addDoor_V : am_mV m6_addDoor 2 6 := ⟨⟨by decide, am_gi 432 (by decide +kernel) rfl, am_gi 4 (by decide +kernel) rfl, by decide +kernel, by decide⟩, by decide, rfl, am_gi 431 (by decide +kernel) rfl, am_gs (n := 15) 11 (by decide +kernel)⟩
def m2_readHole : am_M := (yX2_readHole, cX2_readHole, 3, (some .boolean))
theorem m2_readHole_V : am_mV m2_readHole 1 2 := ⟨⟨by decide, am_gi 436 (by decide +kernel) rfl, am_gi 2 (by decide +kernel) rfl, by decide +kernel, by decide⟩, by decide, rfl, am_gi 435 (by decide +kernel) rfl, am_gs (n := 6) 12 (by decide +kernel)⟩
def m6_findHole : am_M := (yX6_findHole, cX6_findHole, 4, (some .int))
theorem m6_findHole_V : am_mV m6_findHole 2 6 := ⟨⟨by decide, am_gi 440 (by decide +kernel) rfl, am_gi 4 (by decide +kernel) rfl, by decide +kernel, by decide⟩, by decide, rfl, am_gi 439 (by decide +kernel) rfl, am_gs (n := 15) 13 (by decide +kernel)⟩
def m6_addHole : am_M := (yX6_addHole, cX6_addHole, 3, none)
theorem m6_addHole_V : am_mV m6_addHole 2 6 := ⟨⟨by decide, am_gi 444 (by decide +kernel) rfl, am_gi 4 (by decide +kernel) rfl, by decide +kernel, by decide⟩, by decide, rfl, am_gi 443 (by decide +kernel) rfl, am_gs (n := 15) 14 (by decide +kernel)⟩
def m2_readSemicolon : am_M := (yX2_readSemicolon, cX2_readSemicolon, 1, (some .boolean))
theorem m2_readSemicolon_V : am_mV m2_readSemicolon 0 2 := ⟨⟨by decide, am_gi 448 (by decide +kernel) rfl, am_gi 2 (by decide +kernel) rfl, by decide +kernel, by decide⟩, by decide, rfl, am_gi 447 (by decide +kernel) rfl, am_gs (n := 6) 15 (by decide +kernel)⟩
def m7_remember : am_M := (yX7_remember, cX7_remember, 1, none)
theorem m7_remember_V : am_mV m7_remember 0 7 := ⟨⟨by decide, am_gi 452 (by decide +kernel) rfl, am_gi 1 (by decide +kernel) rfl, by decide +kernel, by decide⟩, by decide, rfl, am_gi 451 (by decide +kernel) rfl, am_gs (n := 12) 16 (by decide +kernel)⟩
def m1_add : am_M := (yX1_add, cX1_add, 2, none)
theorem m1_add_V : am_mV m1_add 1 1 := ⟨⟨by decide, am_gi 456 (by decide +kernel) rfl, am_gi 5 (by decide +kernel) rfl, by decide +kernel, by decide⟩, by decide, rfl, am_gi 455 (by decide +kernel) rfl, am_gs (n := 2) 17 (by decide +kernel)⟩
def m1_loseOldest : am_M := (yX1_loseOldest, cX1_loseOldest, 3, none)
theorem m1_loseOldest_V : am_mV m1_loseOldest 0 1 := ⟨⟨by decide, am_gi 460 (by decide +kernel) rfl, am_gi 5 (by decide +kernel) rfl, by decide +kernel, by decide⟩, by decide, rfl, am_gi 459 (by decide +kernel) rfl, am_gs (n := 2) 18 (by decide +kernel)⟩
def m6_copyFrom : am_M := (yX6_copyFrom, cX6_copyFrom, 2, none)
theorem m6_copyFrom_V : am_mV m6_copyFrom 1 6 := ⟨⟨by decide, am_gi 464 (by decide +kernel) rfl, am_gi 4 (by decide +kernel) rfl, by decide +kernel, by decide⟩, by decide, rfl, am_gi 463 (by decide +kernel) rfl, am_gs (n := 15) 19 (by decide +kernel)⟩
def m7_hangs : am_M := (yX7_hangs, cX7_hangs, 4, (some .int))
theorem m7_hangs_V : am_mV m7_hangs 2 7 := ⟨⟨by decide, am_gi 473 (by decide +kernel) rfl, am_gi 1 (by decide +kernel) rfl, by decide +kernel, by decide⟩, by decide, rfl, am_gi 471 (by decide +kernel) rfl, am_gi 472 (by decide +kernel) rfl⟩
def m6_hasPicture : am_M := (yX6_hasPicture, cX6_hasPicture, 2, (some .boolean))
theorem m6_hasPicture_V : am_mV m6_hasPicture 1 6 := ⟨⟨by decide, am_gi 477 (by decide +kernel) rfl, am_gi 4 (by decide +kernel) rfl, by decide +kernel, by decide⟩, by decide, rfl, am_gi 476 (by decide +kernel) rfl, am_gs (n := 15) 20 (by decide +kernel)⟩
def m6_isUp : am_M := (yX6_isUp, cX6_isUp, 2, (some .boolean))
theorem m6_isUp_V : am_mV m6_isUp 1 6 := ⟨⟨by decide, am_gi 481 (by decide +kernel) rfl, am_gi 4 (by decide +kernel) rfl, by decide +kernel, by decide⟩, by decide, rfl, am_gi 480 (by decide +kernel) rfl, am_gs (n := 15) 21 (by decide +kernel)⟩
def m6_isFreeFor : am_M := (yX6_isFreeFor, cX6_isFreeFor, 3, (some .boolean))
theorem m6_isFreeFor_V : am_mV m6_isFreeFor 2 6 := ⟨⟨by decide, am_gi 486 (by decide +kernel) rfl, am_gi 4 (by decide +kernel) rfl, by decide +kernel, by decide⟩, by decide, rfl, am_gi 485 (by decide +kernel) rfl, am_gs (n := 15) 22 (by decide +kernel)⟩
def m6_fits : am_M := (yX6_fits, cX6_fits, 4, (some .boolean))
theorem m6_fits_V : am_mV m6_fits 2 6 := ⟨⟨by decide, am_gi 490 (by decide +kernel) rfl, am_gi 4 (by decide +kernel) rfl, by decide +kernel, by decide⟩, by decide, rfl, am_gi 489 (by decide +kernel) rfl, am_gs (n := 15) 23 (by decide +kernel)⟩
def m6_isApartFromAll : am_M := (yX6_isApartFromAll, cX6_isApartFromAll, 4, (some .boolean))
theorem m6_isApartFromAll_V : am_mV m6_isApartFromAll 2 6 := ⟨⟨by decide, am_gi 494 (by decide +kernel) rfl, am_gi 4 (by decide +kernel) rfl, by decide +kernel, by decide⟩, by decide, rfl, am_gi 493 (by decide +kernel) rfl, am_gs (n := 15) 24 (by decide +kernel)⟩
def m6_hasHoleFor : am_M := (yX6_hasHoleFor, cX6_hasHoleFor, 3, (some .boolean))
theorem m6_hasHoleFor_V : am_mV m6_hasHoleFor 2 6 := ⟨⟨by decide, am_gi 498 (by decide +kernel) rfl, am_gi 4 (by decide +kernel) rfl, by decide +kernel, by decide⟩, by decide, rfl, am_gi 497 (by decide +kernel) rfl, am_gs (n := 15) 25 (by decide +kernel)⟩
def m6_hookX : am_M := (yX6_hookX, cX6_hookX, 3, (some .int))
theorem m6_hookX_V : am_mV m6_hookX 2 6 := ⟨⟨by decide, am_gi 502 (by decide +kernel) rfl, am_gi 4 (by decide +kernel) rfl, by decide +kernel, by decide⟩, by decide, rfl, am_gi 501 (by decide +kernel) rfl, am_gs (n := 15) 26 (by decide +kernel)⟩
def m6_hookY : am_M := (yX6_hookY, cX6_hookY, 2, (some .int))
theorem m6_hookY_V : am_mV m6_hookY 1 6 := ⟨⟨by decide, am_gi 506 (by decide +kernel) rfl, am_gi 4 (by decide +kernel) rfl, by decide +kernel, by decide⟩, by decide, rfl, am_gi 505 (by decide +kernel) rfl, am_gs (n := 15) 27 (by decide +kernel)⟩
def m6_putUp : am_M := (yX6_putUp, cX6_putUp, 3, none)
theorem m6_putUp_V : am_mV m6_putUp 2 6 := ⟨⟨by decide, am_gi 511 (by decide +kernel) rfl, am_gi 4 (by decide +kernel) rfl, by decide +kernel, by decide⟩, by decide, rfl, am_gi 510 (by decide +kernel) rfl, am_gs (n := 15) 28 (by decide +kernel)⟩
def m7_takes : am_M := (yX7_takes, cX7_takes, 3, (some .int))
theorem m7_takes_V : am_mV m7_takes 1 7 := ⟨⟨by decide, am_gi 517 (by decide +kernel) rfl, am_gi 1 (by decide +kernel) rfl, by decide +kernel, by decide⟩, by decide, rfl, am_gi 515 (by decide +kernel) rfl, am_gi 516 (by decide +kernel) rfl⟩
def m7_fills : am_M := (yX7_fills, cX7_fills, 2, (some .int))
theorem m7_fills_V : am_mV m7_fills 1 7 := ⟨⟨by decide, am_gi 521 (by decide +kernel) rfl, am_gi 1 (by decide +kernel) rfl, by decide +kernel, by decide⟩, by decide, rfl, am_gi 519 (by decide +kernel) rfl, am_gi 520 (by decide +kernel) rfl⟩
def m6_hasHole : am_M := (yX6_hasHole, cX6_hasHole, 2, (some .boolean))
theorem m6_hasHole_V : am_mV m6_hasHole 1 6 := ⟨⟨by decide, am_gi 525 (by decide +kernel) rfl, am_gi 4 (by decide +kernel) rfl, by decide +kernel, by decide⟩, by decide, rfl, am_gi 524 (by decide +kernel) rfl, am_gs (n := 15) 29 (by decide +kernel)⟩
def m6_findPictureOn : am_M := (yX6_findPictureOn, cX6_findPictureOn, 3, (some .int))
theorem m6_findPictureOn_V : am_mV m6_findPictureOn 1 6 := ⟨⟨by decide, am_gi 529 (by decide +kernel) rfl, am_gi 4 (by decide +kernel) rfl, by decide +kernel, by decide⟩, by decide, rfl, am_gi 528 (by decide +kernel) rfl, am_gs (n := 15) 30 (by decide +kernel)⟩
def m6_removeHole : am_M := (yX6_removeHole, cX6_removeHole, 3, none)
theorem m6_removeHole_V : am_mV m6_removeHole 1 6 := ⟨⟨by decide, am_gi 534 (by decide +kernel) rfl, am_gi 4 (by decide +kernel) rfl, by decide +kernel, by decide⟩, by decide, rfl, am_gi 533 (by decide +kernel) rfl, am_gs (n := 15) 31 (by decide +kernel)⟩
def m7_lines : am_M := (yX7_lines, cX7_lines, 3, (some .int))
theorem m7_lines_V : am_mV m7_lines 1 7 := ⟨⟨by decide, am_gi 538 (by decide +kernel) rfl, am_gi 1 (by decide +kernel) rfl, by decide +kernel, by decide⟩, by decide, rfl, am_gi 536 (by decide +kernel) rfl, am_gi 537 (by decide +kernel) rfl⟩
def m6_takeAllDown : am_M := (yX6_takeAllDown, cX6_takeAllDown, 2, none)
theorem m6_takeAllDown_V : am_mV m6_takeAllDown 0 6 := ⟨⟨by decide, am_gi 542 (by decide +kernel) rfl, am_gi 4 (by decide +kernel) rfl, by decide +kernel, by decide⟩, by decide, rfl, am_gi 541 (by decide +kernel) rfl, am_gs (n := 15) 32 (by decide +kernel)⟩
def m7_undo : am_M := (yX7_undo, cX7_undo, 1, (some .int))
theorem m7_undo_V : am_mV m7_undo 0 7 := ⟨⟨by decide, am_gi 546 (by decide +kernel) rfl, am_gi 1 (by decide +kernel) rfl, by decide +kernel, by decide⟩, by decide, rfl, am_gi 544 (by decide +kernel) rfl, am_gi 545 (by decide +kernel) rfl⟩
def m1_giveLatestTo : am_M := (yX1_giveLatestTo, cX1_giveLatestTo, 2, (some .boolean))
theorem m1_giveLatestTo_V : am_mV m1_giveLatestTo 1 1 := ⟨⟨by decide, am_gi 550 (by decide +kernel) rfl, am_gi 5 (by decide +kernel) rfl, by decide +kernel, by decide⟩, by decide, rfl, am_gi 549 (by decide +kernel) rfl, am_gs (n := 2) 33 (by decide +kernel)⟩
def m7_picture : am_M := (yX7_picture, cX7_picture, 3, (some .int))
theorem m7_picture_V : am_mV m7_picture 2 7 := ⟨⟨by decide, am_gi 554 (by decide +kernel) rfl, am_gi 1 (by decide +kernel) rfl, by decide +kernel, by decide⟩, by decide, rfl, am_gi 552 (by decide +kernel) rfl, am_gi 553 (by decide +kernel) rfl⟩
def m7_hole : am_M := (yX7_hole, cX7_hole, 3, (some .int))
theorem m7_hole_V : am_mV m7_hole 2 7 := ⟨⟨by decide, am_gi 560 (by decide +kernel) rfl, am_gi 1 (by decide +kernel) rfl, by decide +kernel, by decide⟩, by decide, rfl, am_gi 558 (by decide +kernel) rfl, am_gi 559 (by decide +kernel) rfl⟩
def m7_door : am_M := (yX7_door, cX7_door, 3, (some .int))
theorem m7_door_V : am_mV m7_door 2 7 := ⟨⟨by decide, am_gi 564 (by decide +kernel) rfl, am_gi 1 (by decide +kernel) rfl, by decide +kernel, by decide⟩, by decide, rfl, am_gi 562 (by decide +kernel) rfl, am_gi 563 (by decide +kernel) rfl⟩
def m6_hasDoor : am_M := (yX6_hasDoor, cX6_hasDoor, 2, (some .boolean))
theorem m6_hasDoor_V : am_mV m6_hasDoor 1 6 := ⟨⟨by decide, am_gi 568 (by decide +kernel) rfl, am_gi 4 (by decide +kernel) rfl, by decide +kernel, by decide⟩, by decide, rfl, am_gi 567 (by decide +kernel) rfl, am_gs (n := 15) 34 (by decide +kernel)⟩
def m7_moment : am_M := (yX7_moment, cX7_moment, 2, (some .int))
theorem m7_moment_V : am_mV m7_moment 1 7 := ⟨⟨by decide, am_gi 572 (by decide +kernel) rfl, am_gi 1 (by decide +kernel) rfl, by decide +kernel, by decide⟩, by decide, rfl, am_gi 570 (by decide +kernel) rfl, am_gi 571 (by decide +kernel) rfl⟩
def m6_momentNow : am_M := (yX6_momentNow, cX6_momentNow, 3, (some .int))
theorem m6_momentNow_V : am_mV m6_momentNow 0 6 := ⟨⟨by decide, am_gi 576 (by decide +kernel) rfl, am_gi 4 (by decide +kernel) rfl, by decide +kernel, by decide⟩, by decide, rfl, am_gi 575 (by decide +kernel) rfl, am_gs (n := 15) 35 (by decide +kernel)⟩
def m6_momentAt : am_M := (yX6_momentAt, cX6_momentAt, 3, (some .int))
theorem m6_momentAt_V : am_mV m6_momentAt 2 6 := ⟨⟨by decide, am_gi 580 (by decide +kernel) rfl, am_gi 4 (by decide +kernel) rfl, by decide +kernel, by decide⟩, by decide, rfl, am_gi 579 (by decide +kernel) rfl, am_gs (n := 15) 36 (by decide +kernel)⟩
def m7_best : am_M := (yX7_best, cX7_best, 2, (some .int))
theorem m7_best_V : am_mV m7_best 1 7 := ⟨⟨by decide, am_gi 587 (by decide +kernel) rfl, am_gi 1 (by decide +kernel) rfl, by decide +kernel, by decide⟩, by decide, rfl, am_gi 585 (by decide +kernel) rfl, am_gi 586 (by decide +kernel) rfl⟩
def m3_search : am_M := (yX3_search, cX3_search, 4, none)
theorem m3_search_V : am_mV m3_search 1 3 := ⟨⟨by decide, am_gi 591 (by decide +kernel) rfl, am_gi 6 (by decide +kernel) rfl, by decide +kernel, by decide⟩, by decide, rfl, am_gi 590 (by decide +kernel) rfl, am_gs (n := 14) 37 (by decide +kernel)⟩
def m3_markPlaces : am_M := (yX3_markPlaces, cX3_markPlaces, 4, none)
theorem m3_markPlaces_V : am_mV m3_markPlaces 2 3 := ⟨⟨by decide, am_gi 595 (by decide +kernel) rfl, am_gi 6 (by decide +kernel) rfl, by decide +kernel, by decide⟩, by decide, rfl, am_gi 594 (by decide +kernel) rfl, am_gs (n := 14) 38 (by decide +kernel)⟩
def m3_tryAllGaps : am_M := (yX3_tryAllGaps, cX3_tryAllGaps, 5, none)
theorem m3_tryAllGaps_V : am_mV m3_tryAllGaps 2 3 := ⟨⟨by decide, am_gi 603 (by decide +kernel) rfl, am_gi 6 (by decide +kernel) rfl, by decide +kernel, by decide⟩, by decide, rfl, am_gi 602 (by decide +kernel) rfl, am_gs (n := 14) 39 (by decide +kernel)⟩
def m3_tryOrders : am_M := (yX3_tryOrders, cX3_tryOrders, 8, none)
theorem m3_tryOrders_S : am_mS m3_tryOrders 7 := ⟨⟨by decide, am_gi 606 (by decide +kernel) rfl, am_gi 6 (by decide +kernel) rfl, by decide +kernel, by decide⟩, am_gi 605 (by decide +kernel) rfl⟩
def m3_takeIfBetter : am_M := (yX3_takeIfBetter, cX3_takeIfBetter, 3, none)
theorem m3_takeIfBetter_V : am_mV m3_takeIfBetter 2 3 := ⟨⟨by decide, am_gi 611 (by decide +kernel) rfl, am_gi 6 (by decide +kernel) rfl, by decide +kernel, by decide⟩, by decide, rfl, am_gi 610 (by decide +kernel) rfl, am_gs (n := 14) 40 (by decide +kernel)⟩
def m3_isMarked : am_M := (yX3_isMarked, cX3_isMarked, 3, (some .boolean))
theorem m3_isMarked_S : am_mS m3_isMarked 2 := ⟨⟨by decide, am_gi 615 (by decide +kernel) rfl, am_gi 6 (by decide +kernel) rfl, by decide +kernel, by decide⟩, am_gi 614 (by decide +kernel) rfl⟩
def m3_answer : am_M := (yX3_answer, cX3_answer, 2, (some .int))
theorem m3_answer_V : am_mV m3_answer 1 3 := ⟨⟨by decide, am_gi 619 (by decide +kernel) rfl, am_gi 6 (by decide +kernel) rfl, by decide +kernel, by decide⟩, by decide, rfl, am_gi 618 (by decide +kernel) rfl, am_gs (n := 14) 41 (by decide +kernel)⟩
def m3_pictureAt : am_M := (yX3_pictureAt, cX3_pictureAt, 2, (some .int))
theorem m3_pictureAt_V : am_mV m3_pictureAt 1 3 := ⟨⟨by decide, am_gi 623 (by decide +kernel) rfl, am_gi 6 (by decide +kernel) rfl, by decide +kernel, by decide⟩, by decide, rfl, am_gi 622 (by decide +kernel) rfl, am_gs (n := 14) 42 (by decide +kernel)⟩
def m7_places : am_M := (yX7_places, cX7_places, 3, (some .int))
theorem m7_places_V : am_mV m7_places 2 7 := ⟨⟨by decide, am_gi 627 (by decide +kernel) rfl, am_gi 1 (by decide +kernel) rfl, by decide +kernel, by decide⟩, by decide, rfl, am_gi 625 (by decide +kernel) rfl, am_gi 626 (by decide +kernel) rfl⟩
def m7_countPlaces : am_M := (yX7_countPlaces, cX7_countPlaces, 4, (some .int))
theorem m7_countPlaces_V : am_mV m7_countPlaces 1 7 := ⟨⟨by decide, am_gi 631 (by decide +kernel) rfl, am_gi 1 (by decide +kernel) rfl, by decide +kernel, by decide⟩, by decide, rfl, am_gi 630 (by decide +kernel) rfl, am_gs (n := 12) 43 (by decide +kernel)⟩
def m7_leastPlace : am_M := (yX7_leastPlace, cX7_leastPlace, 4, (some .int))
theorem m7_leastPlace_V : am_mV m7_leastPlace 2 7 := ⟨⟨by decide, am_gi 635 (by decide +kernel) rfl, am_gi 1 (by decide +kernel) rfl, by decide +kernel, by decide⟩, by decide, rfl, am_gi 634 (by decide +kernel) rfl, am_gs (n := 12) 44 (by decide +kernel)⟩
def m7_calmestPlace : am_M := (yX7_calmestPlace, cX7_calmestPlace, 7, (some .int))
theorem m7_calmestPlace_V : am_mV m7_calmestPlace 1 7 := ⟨⟨by decide, am_gi 639 (by decide +kernel) rfl, am_gi 1 (by decide +kernel) rfl, by decide +kernel, by decide⟩, by decide, rfl, am_gi 638 (by decide +kernel) rfl, am_gs (n := 12) 45 (by decide +kernel)⟩
def m7_most : am_M := (yX7_most, cX7_most, 1, (some .int))
theorem m7_most_V : am_mV m7_most 0 7 := ⟨⟨by decide, am_gi 644 (by decide +kernel) rfl, am_gi 1 (by decide +kernel) rfl, by decide +kernel, by decide⟩, by decide, rfl, am_gi 642 (by decide +kernel) rfl, am_gi 643 (by decide +kernel) rfl⟩
def m0_largestSet : am_M := (yX0_largestSet, cX0_largestSet, 4, (some .int))
theorem m0_largestSet_V : am_mV m0_largestSet 1 0 := ⟨⟨by decide, am_gi 648 (by decide +kernel) rfl, am_gi 7 (by decide +kernel) rfl, by decide +kernel, by decide⟩, by decide, rfl, am_gi 647 (by decide +kernel) rfl, am_gs (n := 1) 46 (by decide +kernel)⟩
def m0_leastEnd : am_M := (yX0_leastEnd, cX0_leastEnd, 7, (some .int))
theorem m0_leastEnd_V : am_mV m0_leastEnd 2 0 := ⟨⟨by decide, am_gi 652 (by decide +kernel) rfl, am_gi 7 (by decide +kernel) rfl, by decide +kernel, by decide⟩, by decide, rfl, am_gi 651 (by decide +kernel) rfl, am_gs (n := 1) 47 (by decide +kernel)⟩
def m6_firstFit : am_M := (yX6_firstFit, cX6_firstFit, 4, (some .int))
theorem m6_firstFit_V : am_mV m6_firstFit 2 6 := ⟨⟨by decide, am_gi 656 (by decide +kernel) rfl, am_gi 4 (by decide +kernel) rfl, by decide +kernel, by decide⟩, by decide, rfl, am_gi 655 (by decide +kernel) rfl, am_gs (n := 15) 48 (by decide +kernel)⟩
def m0_isBetter : am_M := (yX0_isBetter, cX0_isBetter, 4, (some .boolean))
theorem m0_isBetter_S : am_mS m0_isBetter 3 := ⟨⟨by decide, am_gi 660 (by decide +kernel) rfl, am_gi 7 (by decide +kernel) rfl, by decide +kernel, by decide⟩, am_gi 659 (by decide +kernel) rfl⟩
def j6_bitCount_0f7a4 : am_M := (yJ6_bitCount_0f7a4, cJ6_bitCount_0f7a4, 1, (some .int))
theorem j6_bitCount_0f7a4_S : am_mS j6_bitCount_0f7a4 1 := ⟨⟨by decide, am_gi 663 (by decide +kernel) rfl, am_gi 16 (by decide +kernel) rfl, by decide +kernel, by decide⟩, am_gi 662 (by decide +kernel) rfl⟩
def m0_weightOf : am_M := (yX0_weightOf, cX0_weightOf, 4, (some .int))
theorem m0_weightOf_S : am_mS m0_weightOf 2 := ⟨⟨by decide, am_gi 669 (by decide +kernel) rfl, am_gi 7 (by decide +kernel) rfl, by decide +kernel, by decide⟩, am_gi 668 (by decide +kernel) rfl⟩
def m7_sees : am_M := (yX7_sees, cX7_sees, 3, (some .int))
theorem m7_sees_V : am_mV m7_sees 2 7 := ⟨⟨by decide, am_gi 673 (by decide +kernel) rfl, am_gi 1 (by decide +kernel) rfl, by decide +kernel, by decide⟩, by decide, rfl, am_gi 671 (by decide +kernel) rfl, am_gi 672 (by decide +kernel) rfl⟩
def m4_add : am_M := (yX4_add, cX4_add, 3, none)
theorem m4_add_V : am_mV m4_add 2 4 := ⟨⟨by decide, am_gi 677 (by decide +kernel) rfl, am_gi 8 (by decide +kernel) rfl, by decide +kernel, by decide⟩, by decide, rfl, am_gi 676 (by decide +kernel) rfl, am_gs (n := 3) 49 (by decide +kernel)⟩
def m7_forget : am_M := (yX7_forget, cX7_forget, 2, (some .int))
theorem m7_forget_V : am_mV m7_forget 0 7 := ⟨⟨by decide, am_gi 681 (by decide +kernel) rfl, am_gi 1 (by decide +kernel) rfl, by decide +kernel, by decide⟩, by decide, rfl, am_gi 679 (by decide +kernel) rfl, am_gi 680 (by decide +kernel) rfl⟩
def m7_which : am_M := (yX7_which, cX7_which, 2, (some .int))
theorem m7_which_V : am_mV m7_which 1 7 := ⟨⟨by decide, am_gi 685 (by decide +kernel) rfl, am_gi 1 (by decide +kernel) rfl, by decide +kernel, by decide⟩, by decide, rfl, am_gi 683 (by decide +kernel) rfl, am_gi 684 (by decide +kernel) rfl⟩
def m4_countMatches : am_M := (yX4_countMatches, cX4_countMatches, 4, (some .int))
theorem m4_countMatches_V : am_mV m4_countMatches 1 4 := ⟨⟨by decide, am_gi 689 (by decide +kernel) rfl, am_gi 8 (by decide +kernel) rfl, by decide +kernel, by decide⟩, by decide, rfl, am_gi 688 (by decide +kernel) rfl, am_gs (n := 3) 50 (by decide +kernel)⟩
def m4_matches : am_M := (yX4_matches, cX4_matches, 4, (some .boolean))
theorem m4_matches_V : am_mV m4_matches 2 4 := ⟨⟨by decide, am_gi 693 (by decide +kernel) rfl, am_gi 8 (by decide +kernel) rfl, by decide +kernel, by decide⟩, by decide, rfl, am_gi 692 (by decide +kernel) rfl, am_gs (n := 3) 51 (by decide +kernel)⟩
def m4_measured : am_M := (yX4_measured, cX4_measured, 3, (some .int))
theorem m4_measured_S : am_mS m4_measured 3 := ⟨⟨by decide, am_gi 696 (by decide +kernel) rfl, am_gi 8 (by decide +kernel) rfl, by decide +kernel, by decide⟩, am_gi 695 (by decide +kernel) rfl⟩
def m4_leastMatch : am_M := (yX4_leastMatch, cX4_leastMatch, 3, (some .int))
theorem m4_leastMatch_V : am_mV m4_leastMatch 1 4 := ⟨⟨by decide, am_gi 703 (by decide +kernel) rfl, am_gi 8 (by decide +kernel) rfl, by decide +kernel, by decide⟩, by decide, rfl, am_gi 702 (by decide +kernel) rfl, am_gs (n := 3) 52 (by decide +kernel)⟩
def m7_keep : am_M := (yX7_keep, cX7_keep, 2, (some .int))
theorem m7_keep_V : am_mV m7_keep 1 7 := ⟨⟨by decide, am_gi 707 (by decide +kernel) rfl, am_gi 1 (by decide +kernel) rfl, by decide +kernel, by decide⟩, by decide, rfl, am_gi 705 (by decide +kernel) rfl, am_gi 706 (by decide +kernel) rfl⟩
def m6_countUp : am_M := (yX6_countUp, cX6_countUp, 3, (some .int))
theorem m6_countUp_V : am_mV m6_countUp 0 6 := ⟨⟨by decide, am_gi 711 (by decide +kernel) rfl, am_gi 4 (by decide +kernel) rfl, by decide +kernel, by decide⟩, by decide, rfl, am_gi 710 (by decide +kernel) rfl, am_gs (n := 15) 53 (by decide +kernel)⟩
def m7_back : am_M := (yX7_back, cX7_back, 2, (some .int))
theorem m7_back_V : am_mV m7_back 1 7 := ⟨⟨by decide, am_gi 715 (by decide +kernel) rfl, am_gi 1 (by decide +kernel) rfl, by decide +kernel, by decide⟩, by decide, rfl, am_gi 713 (by decide +kernel) rfl, am_gi 714 (by decide +kernel) rfl⟩
def m7_count : am_M := (yX7_count, cX7_count, 2, (some .int))
theorem m7_count_V : am_mV m7_count 1 7 := ⟨⟨by decide, am_gi 719 (by decide +kernel) rfl, am_gi 1 (by decide +kernel) rfl, by decide +kernel, by decide⟩, by decide, rfl, am_gi 717 (by decide +kernel) rfl, am_gi 718 (by decide +kernel) rfl⟩
def m8_init : am_M := (yX8_init, cX8_init, 1, none)
theorem m8_init_I : am_mI m8_init 0 := ⟨⟨by decide, am_gi 724 (by decide +kernel) rfl, am_gi 9 (by decide +kernel) rfl, by decide +kernel, by decide⟩, rfl, rfl, am_gi 723 (by decide +kernel) rfl⟩
def m8_bares : am_M := (yX8_bares, cX8_bares, 2, none)
theorem m8_bares_S : am_mS m8_bares 1 := ⟨⟨by decide, am_gi 728 (by decide +kernel) rfl, am_gi 9 (by decide +kernel) rfl, by decide +kernel, by decide⟩, am_gi 727 (by decide +kernel) rfl⟩
def m8_type : am_M := (yX8_type, cX8_type, 2, (some .int))
theorem m8_type_V : am_mV m8_type 1 8 := ⟨⟨by decide, am_gi 796 (by decide +kernel) rfl, am_gi 9 (by decide +kernel) rfl, by decide +kernel, by decide⟩, by decide, rfl, am_gi 794 (by decide +kernel) rfl, am_gi 795 (by decide +kernel) rfl⟩
def m8_within : am_M := (yX8_within, cX8_within, 3, (some .boolean))
theorem m8_within_S : am_mS m8_within 3 := ⟨⟨by decide, am_gi 799 (by decide +kernel) rfl, am_gi 9 (by decide +kernel) rfl, by decide +kernel, by decide⟩, am_gi 798 (by decide +kernel) rfl⟩
def m8_clear : am_M := (yX8_clear, cX8_clear, 2, (some .int))
theorem m8_clear_V : am_mV m8_clear 0 8 := ⟨⟨by decide, am_gi 803 (by decide +kernel) rfl, am_gi 9 (by decide +kernel) rfl, by decide +kernel, by decide⟩, by decide, rfl, am_gi 801 (by decide +kernel) rfl, am_gi 802 (by decide +kernel) rfl⟩
def m8_tells : am_M := (yX8_tells, cX8_tells, 3, (some .int))
theorem m8_tells_V : am_mV m8_tells 0 8 := ⟨⟨by decide, am_gi 807 (by decide +kernel) rfl, am_gi 9 (by decide +kernel) rfl, by decide +kernel, by decide⟩, by decide, rfl, am_gi 805 (by decide +kernel) rfl, am_gi 806 (by decide +kernel) rfl⟩
def m8_reads : am_M := (yX8_reads, cX8_reads, 2, (some .int))
theorem m8_reads_V : am_mV m8_reads 0 8 := ⟨⟨by decide, am_gi 811 (by decide +kernel) rfl, am_gi 9 (by decide +kernel) rfl, by decide +kernel, by decide⟩, by decide, rfl, am_gi 810 (by decide +kernel) rfl, am_gs (n := 21) 54 (by decide +kernel)⟩
def m8_skips : am_M := (yX8_skips, cX8_skips, 1, none)
theorem m8_skips_V : am_mV m8_skips 0 8 := ⟨⟨by decide, am_gi 815 (by decide +kernel) rfl, am_gi 9 (by decide +kernel) rfl, by decide +kernel, by decide⟩, by decide, rfl, am_gi 814 (by decide +kernel) rfl, am_gs (n := 21) 55 (by decide +kernel)⟩
def m8_readsItem : am_M := (yX8_readsItem, cX8_readsItem, 1, (some .boolean))
theorem m8_readsItem_V : am_mV m8_readsItem 0 8 := ⟨⟨by decide, am_gi 819 (by decide +kernel) rfl, am_gi 9 (by decide +kernel) rfl, by decide +kernel, by decide⟩, by decide, rfl, am_gi 818 (by decide +kernel) rfl, am_gs (n := 21) 56 (by decide +kernel)⟩
def m8_isAt : am_M := (yX8_isAt, cX8_isAt, 3, (some .boolean))
theorem m8_isAt_V : am_mV m8_isAt 2 8 := ⟨⟨by decide, am_gi 823 (by decide +kernel) rfl, am_gi 9 (by decide +kernel) rfl, by decide +kernel, by decide⟩, by decide, rfl, am_gi 822 (by decide +kernel) rfl, am_gs (n := 21) 57 (by decide +kernel)⟩
def m8_spells : am_M := (yX8_spells, cX8_spells, 7, (some .boolean))
theorem m8_spells_V : am_mV m8_spells 4 8 := ⟨⟨by decide, am_gi 827 (by decide +kernel) rfl, am_gi 9 (by decide +kernel) rfl, by decide +kernel, by decide⟩, by decide, rfl, am_gi 826 (by decide +kernel) rfl, am_gs (n := 21) 58 (by decide +kernel)⟩
def m8_readsWall : am_M := (yX8_readsWall, cX8_readsWall, 2, (some .boolean))
theorem m8_readsWall_V : am_mV m8_readsWall 0 8 := ⟨⟨by decide, am_gi 831 (by decide +kernel) rfl, am_gi 9 (by decide +kernel) rfl, by decide +kernel, by decide⟩, by decide, rfl, am_gi 830 (by decide +kernel) rfl, am_gs (n := 21) 59 (by decide +kernel)⟩
def m8_puts : am_M := (yX8_puts, cX8_puts, 6, (some .boolean))
theorem m8_puts_V : am_mV m8_puts 3 8 := ⟨⟨by decide, am_gi 835 (by decide +kernel) rfl, am_gi 9 (by decide +kernel) rfl, by decide +kernel, by decide⟩, by decide, rfl, am_gi 834 (by decide +kernel) rfl, am_gs (n := 21) 60 (by decide +kernel)⟩
def m8_readsPicture : am_M := (yX8_readsPicture, cX8_readsPicture, 2, (some .boolean))
theorem m8_readsPicture_V : am_mV m8_readsPicture 0 8 := ⟨⟨by decide, am_gi 839 (by decide +kernel) rfl, am_gi 9 (by decide +kernel) rfl, by decide +kernel, by decide⟩, by decide, rfl, am_gi 838 (by decide +kernel) rfl, am_gs (n := 21) 61 (by decide +kernel)⟩
def m8_readsDoor : am_M := (yX8_readsDoor, cX8_readsDoor, 2, (some .boolean))
theorem m8_readsDoor_V : am_mV m8_readsDoor 0 8 := ⟨⟨by decide, am_gi 843 (by decide +kernel) rfl, am_gi 9 (by decide +kernel) rfl, by decide +kernel, by decide⟩, by decide, rfl, am_gi 842 (by decide +kernel) rfl, am_gs (n := 21) 62 (by decide +kernel)⟩
def m8_readsHole : am_M := (yX8_readsHole, cX8_readsHole, 3, (some .boolean))
theorem m8_readsHole_V : am_mV m8_readsHole 0 8 := ⟨⟨by decide, am_gi 847 (by decide +kernel) rfl, am_gi 9 (by decide +kernel) rfl, by decide +kernel, by decide⟩, by decide, rfl, am_gi 846 (by decide +kernel) rfl, am_gs (n := 21) 63 (by decide +kernel)⟩
def m8_passesEnd : am_M := (yX8_passesEnd, cX8_passesEnd, 2, (some .boolean))
theorem m8_passesEnd_V : am_mV m8_passesEnd 0 8 := ⟨⟨by decide, am_gi 851 (by decide +kernel) rfl, am_gi 9 (by decide +kernel) rfl, by decide +kernel, by decide⟩, by decide, rfl, am_gi 850 (by decide +kernel) rfl, am_gs (n := 21) 64 (by decide +kernel)⟩
def m8_keeps : am_M := (yX8_keeps, cX8_keeps, 2, none)
theorem m8_keeps_V : am_mV m8_keeps 0 8 := ⟨⟨by decide, am_gi 855 (by decide +kernel) rfl, am_gi 9 (by decide +kernel) rfl, by decide +kernel, by decide⟩, by decide, rfl, am_gi 854 (by decide +kernel) rfl, am_gs (n := 21) 65 (by decide +kernel)⟩
def m8_hangs : am_M := (yX8_hangs, cX8_hangs, 5, (some .int))
theorem m8_hangs_V : am_mV m8_hangs 2 8 := ⟨⟨by decide, am_gi 859 (by decide +kernel) rfl, am_gi 9 (by decide +kernel) rfl, by decide +kernel, by decide⟩, by decide, rfl, am_gi 857 (by decide +kernel) rfl, am_gi 858 (by decide +kernel) rfl⟩
def m8_isPicture : am_M := (yX8_isPicture, cX8_isPicture, 2, (some .boolean))
theorem m8_isPicture_V : am_mV m8_isPicture 1 8 := ⟨⟨by decide, am_gi 863 (by decide +kernel) rfl, am_gi 9 (by decide +kernel) rfl, by decide +kernel, by decide⟩, by decide, rfl, am_gi 862 (by decide +kernel) rfl, am_gs (n := 21) 66 (by decide +kernel)⟩
def m8_hangsNow : am_M := (yX8_hangsNow, cX8_hangsNow, 2, (some .boolean))
theorem m8_hangsNow_V : am_mV m8_hangsNow 1 8 := ⟨⟨by decide, am_gi 867 (by decide +kernel) rfl, am_gi 9 (by decide +kernel) rfl, by decide +kernel, by decide⟩, by decide, rfl, am_gi 866 (by decide +kernel) rfl, am_gs (n := 21) 67 (by decide +kernel)⟩
def m8_doesFit : am_M := (yX8_doesFit, cX8_doesFit, 6, (some .boolean))
theorem m8_doesFit_V : am_mV m8_doesFit 2 8 := ⟨⟨by decide, am_gi 871 (by decide +kernel) rfl, am_gi 9 (by decide +kernel) rfl, by decide +kernel, by decide⟩, by decide, rfl, am_gi 870 (by decide +kernel) rfl, am_gs (n := 21) 68 (by decide +kernel)⟩
def m8_ofPicture : am_M := (yX8_ofPicture, cX8_ofPicture, 3, (some .int))
theorem m8_ofPicture_V : am_mV m8_ofPicture 2 8 := ⟨⟨by decide, am_gi 875 (by decide +kernel) rfl, am_gi 9 (by decide +kernel) rfl, by decide +kernel, by decide⟩, by decide, rfl, am_gi 874 (by decide +kernel) rfl, am_gs (n := 21) 69 (by decide +kernel)⟩
def m8_isApart : am_M := (yX8_isApart, cX8_isApart, 8, (some .boolean))
theorem m8_isApart_V : am_mV m8_isApart 2 8 := ⟨⟨by decide, am_gi 879 (by decide +kernel) rfl, am_gi 9 (by decide +kernel) rfl, by decide +kernel, by decide⟩, by decide, rfl, am_gi 878 (by decide +kernel) rfl, am_gs (n := 21) 70 (by decide +kernel)⟩
def m8_hasHole : am_M := (yX8_hasHole, cX8_hasHole, 3, (some .boolean))
theorem m8_hasHole_V : am_mV m8_hasHole 2 8 := ⟨⟨by decide, am_gi 883 (by decide +kernel) rfl, am_gi 9 (by decide +kernel) rfl, by decide +kernel, by decide⟩, by decide, rfl, am_gi 882 (by decide +kernel) rfl, am_gs (n := 21) 71 (by decide +kernel)⟩
def m8_hookX : am_M := (yX8_hookX, cX8_hookX, 3, (some .int))
theorem m8_hookX_V : am_mV m8_hookX 2 8 := ⟨⟨by decide, am_gi 887 (by decide +kernel) rfl, am_gi 9 (by decide +kernel) rfl, by decide +kernel, by decide⟩, by decide, rfl, am_gi 886 (by decide +kernel) rfl, am_gs (n := 21) 72 (by decide +kernel)⟩
def m8_hookY : am_M := (yX8_hookY, cX8_hookY, 2, (some .int))
theorem m8_hookY_V : am_mV m8_hookY 1 8 := ⟨⟨by decide, am_gi 891 (by decide +kernel) rfl, am_gi 9 (by decide +kernel) rfl, by decide +kernel, by decide⟩, by decide, rfl, am_gi 890 (by decide +kernel) rfl, am_gs (n := 21) 73 (by decide +kernel)⟩
def m8_holeAt : am_M := (yX8_holeAt, cX8_holeAt, 5, (some .int))
theorem m8_holeAt_V : am_mV m8_holeAt 2 8 := ⟨⟨by decide, am_gi 895 (by decide +kernel) rfl, am_gi 9 (by decide +kernel) rfl, by decide +kernel, by decide⟩, by decide, rfl, am_gi 894 (by decide +kernel) rfl, am_gs (n := 21) 74 (by decide +kernel)⟩
def m8_takes : am_M := (yX8_takes, cX8_takes, 3, (some .int))
theorem m8_takes_V : am_mV m8_takes 1 8 := ⟨⟨by decide, am_gi 899 (by decide +kernel) rfl, am_gi 9 (by decide +kernel) rfl, by decide +kernel, by decide⟩, by decide, rfl, am_gi 897 (by decide +kernel) rfl, am_gi 898 (by decide +kernel) rfl⟩
def m8_fills : am_M := (yX8_fills, cX8_fills, 3, (some .int))
theorem m8_fills_V : am_mV m8_fills 1 8 := ⟨⟨by decide, am_gi 903 (by decide +kernel) rfl, am_gi 9 (by decide +kernel) rfl, by decide +kernel, by decide⟩, by decide, rfl, am_gi 901 (by decide +kernel) rfl, am_gi 902 (by decide +kernel) rfl⟩
def m8_isHole : am_M := (yX8_isHole, cX8_isHole, 2, (some .boolean))
theorem m8_isHole_V : am_mV m8_isHole 1 8 := ⟨⟨by decide, am_gi 907 (by decide +kernel) rfl, am_gi 9 (by decide +kernel) rfl, by decide +kernel, by decide⟩, by decide, rfl, am_gi 906 (by decide +kernel) rfl, am_gs (n := 21) 75 (by decide +kernel)⟩
def m8_hangingAt : am_M := (yX8_hangingAt, cX8_hangingAt, 5, (some .int))
theorem m8_hangingAt_V : am_mV m8_hangingAt 1 8 := ⟨⟨by decide, am_gi 911 (by decide +kernel) rfl, am_gi 9 (by decide +kernel) rfl, by decide +kernel, by decide⟩, by decide, rfl, am_gi 910 (by decide +kernel) rfl, am_gs (n := 21) 76 (by decide +kernel)⟩
def m8_lines : am_M := (yX8_lines, cX8_lines, 4, (some .int))
theorem m8_lines_V : am_mV m8_lines 1 8 := ⟨⟨by decide, am_gi 915 (by decide +kernel) rfl, am_gi 9 (by decide +kernel) rfl, by decide +kernel, by decide⟩, by decide, rfl, am_gi 913 (by decide +kernel) rfl, am_gi 914 (by decide +kernel) rfl⟩
def m8_undo : am_M := (yX8_undo, cX8_undo, 2, (some .int))
theorem m8_undo_V : am_mV m8_undo 0 8 := ⟨⟨by decide, am_gi 919 (by decide +kernel) rfl, am_gi 9 (by decide +kernel) rfl, by decide +kernel, by decide⟩, by decide, rfl, am_gi 917 (by decide +kernel) rfl, am_gi 918 (by decide +kernel) rfl⟩
def m8_picture : am_M := (yX8_picture, cX8_picture, 3, (some .int))
theorem m8_picture_V : am_mV m8_picture 2 8 := ⟨⟨by decide, am_gi 923 (by decide +kernel) rfl, am_gi 9 (by decide +kernel) rfl, by decide +kernel, by decide⟩, by decide, rfl, am_gi 921 (by decide +kernel) rfl, am_gi 922 (by decide +kernel) rfl⟩
def m8_hole : am_M := (yX8_hole, cX8_hole, 3, (some .int))
theorem m8_hole_V : am_mV m8_hole 2 8 := ⟨⟨by decide, am_gi 928 (by decide +kernel) rfl, am_gi 9 (by decide +kernel) rfl, by decide +kernel, by decide⟩, by decide, rfl, am_gi 926 (by decide +kernel) rfl, am_gi 927 (by decide +kernel) rfl⟩
def m8_door : am_M := (yX8_door, cX8_door, 3, (some .int))
theorem m8_door_V : am_mV m8_door 2 8 := ⟨⟨by decide, am_gi 932 (by decide +kernel) rfl, am_gi 9 (by decide +kernel) rfl, by decide +kernel, by decide⟩, by decide, rfl, am_gi 930 (by decide +kernel) rfl, am_gi 931 (by decide +kernel) rfl⟩
def m8_moment : am_M := (yX8_moment, cX8_moment, 2, (some .int))
theorem m8_moment_V : am_mV m8_moment 1 8 := ⟨⟨by decide, am_gi 936 (by decide +kernel) rfl, am_gi 9 (by decide +kernel) rfl, by decide +kernel, by decide⟩, by decide, rfl, am_gi 934 (by decide +kernel) rfl, am_gi 935 (by decide +kernel) rfl⟩
def m8_momentNow : am_M := (yX8_momentNow, cX8_momentNow, 3, (some .int))
theorem m8_momentNow_V : am_mV m8_momentNow 0 8 := ⟨⟨by decide, am_gi 940 (by decide +kernel) rfl, am_gi 9 (by decide +kernel) rfl, by decide +kernel, by decide⟩, by decide, rfl, am_gi 939 (by decide +kernel) rfl, am_gs (n := 21) 77 (by decide +kernel)⟩
def m8_leanOf : am_M := (yX8_leanOf, cX8_leanOf, 3, (some .int))
theorem m8_leanOf_V : am_mV m8_leanOf 2 8 := ⟨⟨by decide, am_gi 944 (by decide +kernel) rfl, am_gi 9 (by decide +kernel) rfl, by decide +kernel, by decide⟩, by decide, rfl, am_gi 943 (by decide +kernel) rfl, am_gs (n := 21) 78 (by decide +kernel)⟩
def m8_off : am_M := (yX8_off, cX8_off, 1, (some .int))
theorem m8_off_S : am_mS m8_off 1 := ⟨⟨by decide, am_gi 947 (by decide +kernel) rfl, am_gi 9 (by decide +kernel) rfl, by decide +kernel, by decide⟩, am_gi 946 (by decide +kernel) rfl⟩
def m8_best : am_M := (yX8_best, cX8_best, 2, (some .int))
theorem m8_best_V : am_mV m8_best 1 8 := ⟨⟨by decide, am_gi 951 (by decide +kernel) rfl, am_gi 9 (by decide +kernel) rfl, by decide +kernel, by decide⟩, by decide, rfl, am_gi 949 (by decide +kernel) rfl, am_gi 950 (by decide +kernel) rfl⟩
def m8_findsBest : am_M := (yX8_findsBest, cX8_findsBest, 6, none)
theorem m8_findsBest_V : am_mV m8_findsBest 0 8 := ⟨⟨by decide, am_gi 955 (by decide +kernel) rfl, am_gi 9 (by decide +kernel) rfl, by decide +kernel, by decide⟩, by decide, rfl, am_gi 954 (by decide +kernel) rfl, am_gs (n := 21) 79 (by decide +kernel)⟩
def m8_laysPlaces : am_M := (yX8_laysPlaces, cX8_laysPlaces, 2, none)
theorem m8_laysPlaces_V : am_mV m8_laysPlaces 0 8 := ⟨⟨by decide, am_gi 959 (by decide +kernel) rfl, am_gi 9 (by decide +kernel) rfl, by decide +kernel, by decide⟩, by decide, rfl, am_gi 958 (by decide +kernel) rfl, am_gs (n := 21) 80 (by decide +kernel)⟩
def m8_isOrder : am_M := (yX8_isOrder, cX8_isOrder, 5, (some .boolean))
theorem m8_isOrder_V : am_mV m8_isOrder 1 8 := ⟨⟨by decide, am_gi 963 (by decide +kernel) rfl, am_gi 9 (by decide +kernel) rfl, by decide +kernel, by decide⟩, by decide, rfl, am_gi 962 (by decide +kernel) rfl, am_gs (n := 21) 81 (by decide +kernel)⟩
def m8_tries : am_M := (yX8_tries, cX8_tries, 9, none)
theorem m8_tries_V : am_mV m8_tries 2 8 := ⟨⟨by decide, am_gi 967 (by decide +kernel) rfl, am_gi 9 (by decide +kernel) rfl, by decide +kernel, by decide⟩, by decide, rfl, am_gi 966 (by decide +kernel) rfl, am_gs (n := 21) 82 (by decide +kernel)⟩
def m8_places : am_M := (yX8_places, cX8_places, 3, (some .int))
theorem m8_places_V : am_mV m8_places 2 8 := ⟨⟨by decide, am_gi 971 (by decide +kernel) rfl, am_gi 9 (by decide +kernel) rfl, by decide +kernel, by decide⟩, by decide, rfl, am_gi 969 (by decide +kernel) rfl, am_gi 970 (by decide +kernel) rfl⟩
def m8_tellPlaces : am_M := (yX8_tellPlaces, cX8_tellPlaces, 10, (some .int))
theorem m8_tellPlaces_V : am_mV m8_tellPlaces 2 8 := ⟨⟨by decide, am_gi 975 (by decide +kernel) rfl, am_gi 9 (by decide +kernel) rfl, by decide +kernel, by decide⟩, by decide, rfl, am_gi 974 (by decide +kernel) rfl, am_gs (n := 21) 83 (by decide +kernel)⟩
def m8_most : am_M := (yX8_most, cX8_most, 8, (some .int))
theorem m8_most_V : am_mV m8_most 0 8 := ⟨⟨by decide, am_gi 979 (by decide +kernel) rfl, am_gi 9 (by decide +kernel) rfl, by decide +kernel, by decide⟩, by decide, rfl, am_gi 977 (by decide +kernel) rfl, am_gi 978 (by decide +kernel) rfl⟩
def m8_reachOf : am_M := (yX8_reachOf, cX8_reachOf, 7, (some .int))
theorem m8_reachOf_V : am_mV m8_reachOf 1 8 := ⟨⟨by decide, am_gi 983 (by decide +kernel) rfl, am_gi 9 (by decide +kernel) rfl, by decide +kernel, by decide⟩, by decide, rfl, am_gi 982 (by decide +kernel) rfl, am_gs (n := 21) 84 (by decide +kernel)⟩
def m8_has : am_M := (yX8_has, cX8_has, 2, (some .boolean))
theorem m8_has_S : am_mS m8_has 2 := ⟨⟨by decide, am_gi 986 (by decide +kernel) rfl, am_gi 9 (by decide +kernel) rfl, by decide +kernel, by decide⟩, am_gi 985 (by decide +kernel) rfl⟩
def m8_sees : am_M := (yX8_sees, cX8_sees, 3, (some .int))
theorem m8_sees_V : am_mV m8_sees 2 8 := ⟨⟨by decide, am_gi 990 (by decide +kernel) rfl, am_gi 9 (by decide +kernel) rfl, by decide +kernel, by decide⟩, by decide, rfl, am_gi 988 (by decide +kernel) rfl, am_gi 989 (by decide +kernel) rfl⟩
def m8_forget : am_M := (yX8_forget, cX8_forget, 2, (some .int))
theorem m8_forget_V : am_mV m8_forget 0 8 := ⟨⟨by decide, am_gi 994 (by decide +kernel) rfl, am_gi 9 (by decide +kernel) rfl, by decide +kernel, by decide⟩, by decide, rfl, am_gi 992 (by decide +kernel) rfl, am_gi 993 (by decide +kernel) rfl⟩
def m8_which : am_M := (yX8_which, cX8_which, 5, (some .int))
theorem m8_which_V : am_mV m8_which 1 8 := ⟨⟨by decide, am_gi 998 (by decide +kernel) rfl, am_gi 9 (by decide +kernel) rfl, by decide +kernel, by decide⟩, by decide, rfl, am_gi 996 (by decide +kernel) rfl, am_gi 997 (by decide +kernel) rfl⟩
def m8_isSeen : am_M := (yX8_isSeen, cX8_isSeen, 6, (some .boolean))
theorem m8_isSeen_V : am_mV m8_isSeen 1 8 := ⟨⟨by decide, am_gi 1002 (by decide +kernel) rfl, am_gi 9 (by decide +kernel) rfl, by decide +kernel, by decide⟩, by decide, rfl, am_gi 1001 (by decide +kernel) rfl, am_gs (n := 21) 85 (by decide +kernel)⟩
def m8_keep : am_M := (yX8_keep, cX8_keep, 3, (some .int))
theorem m8_keep_V : am_mV m8_keep 1 8 := ⟨⟨by decide, am_gi 1006 (by decide +kernel) rfl, am_gi 9 (by decide +kernel) rfl, by decide +kernel, by decide⟩, by decide, rfl, am_gi 1004 (by decide +kernel) rfl, am_gi 1005 (by decide +kernel) rfl⟩
def m8_hanging : am_M := (yX8_hanging, cX8_hanging, 3, (some .int))
theorem m8_hanging_V : am_mV m8_hanging 0 8 := ⟨⟨by decide, am_gi 1010 (by decide +kernel) rfl, am_gi 9 (by decide +kernel) rfl, by decide +kernel, by decide⟩, by decide, rfl, am_gi 1009 (by decide +kernel) rfl, am_gs (n := 21) 86 (by decide +kernel)⟩
def m8_back : am_M := (yX8_back, cX8_back, 3, (some .int))
theorem m8_back_V : am_mV m8_back 1 8 := ⟨⟨by decide, am_gi 1014 (by decide +kernel) rfl, am_gi 9 (by decide +kernel) rfl, by decide +kernel, by decide⟩, by decide, rfl, am_gi 1012 (by decide +kernel) rfl, am_gi 1013 (by decide +kernel) rfl⟩
def m8_count : am_M := (yX8_count, cX8_count, 2, (some .int))
theorem m8_count_V : am_mV m8_count 1 8 := ⟨⟨by decide, am_gi 1018 (by decide +kernel) rfl, am_gi 9 (by decide +kernel) rfl, by decide +kernel, by decide⟩, by decide, rfl, am_gi 1016 (by decide +kernel) rfl, am_gi 1017 (by decide +kernel) rfl⟩
theorem lk7_1 : am_lk RX7 1 (⟨"java/lang/Object", "<init>", "()V"⟩ : MethodName) := Or.inl (am_gi 22 (by decide +kernel) rfl)
theorem lk2_3 : am_lk RX2 3 (⟨"java/lang/Object", "<init>", "()V"⟩ : MethodName) := Or.inl (am_gi 30 (by decide +kernel) rfl)
theorem lk5_3 : am_lk RX5 3 (⟨"java/lang/Object", "<init>", "()V"⟩ : MethodName) := Or.inl (am_gi 36 (by decide +kernel) rfl)
theorem lk6_3 : am_lk RX6 3 (⟨"java/lang/Object", "<init>", "()V"⟩ : MethodName) := Or.inl (am_gi 79 (by decide +kernel) rfl)
theorem lk6_39 : am_lk RX6 39 yX6_makeBare := Or.inl (am_gi 80 (by decide +kernel) rfl)
theorem lk1_3 : am_lk RX1 3 (⟨"java/lang/Object", "<init>", "()V"⟩ : MethodName) := Or.inl (am_gi 168 (by decide +kernel) rfl)
theorem lk3_3 : am_lk RX3 3 (⟨"java/lang/Object", "<init>", "()V"⟩ : MethodName) := Or.inl (am_gi 185 (by decide +kernel) rfl)
theorem lk0_3 : am_lk RX0 3 (⟨"java/lang/Object", "<init>", "()V"⟩ : MethodName) := Or.inl (am_gi 235 (by decide +kernel) rfl)
theorem lk4_3 : am_lk RX4 3 (⟨"java/lang/Object", "<init>", "()V"⟩ : MethodName) := Or.inl (am_gi 245 (by decide +kernel) rfl)
theorem lk5_25 : am_lk RX5 25 yX5_endOfToken := Or.inl (am_gi 315 (by decide +kernel) rfl)
theorem lk5_45 : am_lk RX5 45 yX5_sortAt := Or.inl (am_gi 318 (by decide +kernel) rfl)
theorem lk5_29 : am_lk RX5 29 yX5_kindOf := Or.inl (am_gi 321 (by decide +kernel) rfl)
theorem lk5_49 : am_lk RX5 49 yX5_kindOfFigures := Or.inl (am_gi 324 (by decide +kernel) rfl)
theorem lk5_57 : am_lk RX5 57 yX5_spells := Or.inl (am_gi 328 (by decide +kernel) rfl)
theorem lk5_71 : am_lk RX5 71 yJ0_length_8abf5 := Or.inl (am_gi 331 (by decide +kernel) rfl)
theorem lk5_77 : am_lk RX5 77 yJ0_charAt_5068e := Or.inl (am_gi 341 (by decide +kernel) rfl)
theorem lk5_32 : am_lk RX5 32 yX5_valueOf := Or.inl (am_gi 379 (by decide +kernel) rfl)
theorem lk5_81 : am_lk RX5 81 yJ9_min_7cf53 := Or.inl (am_gi 382 (by decide +kernel) rfl)
theorem lk5_52 : am_lk RX5 52 yX5_kindOfWord := Or.inl (am_gi 385 (by decide +kernel) rfl)
theorem lk5_35 : am_lk RX5 35 yX5_add := Or.inl (am_gi 393 (by decide +kernel) rfl)
theorem lk5_39 : am_lk RX5 39 yJ9_max_7cf53 := Or.inl (am_gi 397 (by decide +kernel) rfl)
theorem lk2_35 : am_lk RX2 35 yX2_readToken := Or.inl (am_gi 401 (by decide +kernel) rfl)
theorem lk2_41 : am_lk RX2 41 yX2_readItem := Or.inl (am_gi 405 (by decide +kernel) rfl)
theorem lk2_68 : am_lk RX2 68 yX2_readWall := Or.inl (am_gi 409 (by decide +kernel) rfl)
theorem lk2_89 : am_lk RX2 89 yX2_readNumber := Or.inl (am_gi 413 (by decide +kernel) rfl)
theorem lk2_74 : am_lk RX2 74 yX2_readPicture := Or.inl (am_gi 417 (by decide +kernel) rfl)
theorem lk2_80 : am_lk RX2 80 yX2_readDoor := Or.inl (am_gi 425 (by decide +kernel) rfl)
theorem lk2_86 : am_lk RX2 86 yX2_readHole := Or.inl (am_gi 433 (by decide +kernel) rfl)
theorem lk2_45 : am_lk RX2 45 yX2_readSemicolon := Or.inl (am_gi 445 (by decide +kernel) rfl)
theorem lk7_78 : am_lk RX7 78 yX7_remember := Or.inl (am_gi 449 (by decide +kernel) rfl)
theorem lk1_22 : am_lk RX1 22 yX1_loseOldest := Or.inl (am_gi 457 (by decide +kernel) rfl)
theorem lk6_61 : am_lk RX6 61 (⟨"java/lang/System", "arraycopy", "(Ljava/lang/Object;ILjava/lang/Object;II)V"⟩ : MethodName) := Or.inl (am_gi 465 (by decide +kernel) rfl)
theorem lk6_71 : am_lk RX6 71 yX6_hasPicture := Or.inl (am_gi 482 (by decide +kernel) rfl)
theorem lk6_85 : am_lk RX6 85 yX6_fits := Or.inl (am_gi 487 (by decide +kernel) rfl)
theorem lk6_89 : am_lk RX6 89 yX6_isApartFromAll := Or.inl (am_gi 491 (by decide +kernel) rfl)
theorem lk6_74 : am_lk RX6 74 yX6_hookX := Or.inl (am_gi 499 (by decide +kernel) rfl)
theorem lk6_78 : am_lk RX6 78 yX6_hookY := Or.inl (am_gi 503 (by decide +kernel) rfl)
theorem lk6_82 : am_lk RX6 82 yX6_findHole := Or.inl (am_gi 507 (by decide +kernel) rfl)
theorem lk6_92 : am_lk RX6 92 yX6_hasHoleFor := Or.inl (am_gi 512 (by decide +kernel) rfl)
theorem lk6_95 : am_lk RX6 95 yX6_addHole := Or.inl (am_gi 513 (by decide +kernel) rfl)
theorem lk6_67 : am_lk RX6 67 yX6_hasHole := Or.inl (am_gi 530 (by decide +kernel) rfl)
theorem lk6_99 : am_lk RX6 99 yX6_momentAt := Or.inl (am_gi 577 (by decide +kernel) rfl)
theorem lk7_168 : am_lk RX7 168 yJ9_abs_0f7a4 := Or.inl (am_gi 581 (by decide +kernel) rfl)
theorem lk3_63 : am_lk RX3 63 yX3_markPlaces := Or.inl (am_gi 592 (by decide +kernel) rfl)
theorem lk3_74 : am_lk RX3 74 yX3_tryAllGaps := Or.inl (am_gi 600 (by decide +kernel) rfl)
theorem lk3_95 : am_lk RX3 95 yX3_tryOrders := Or.inl (am_gi 604 (by decide +kernel) rfl)
theorem lk3_99 : am_lk RX3 99 yJ9_abs_0f7a4 := Or.inl (am_gi 607 (by decide +kernel) rfl)
theorem lk3_104 : am_lk RX3 104 yX3_takeIfBetter := Or.inl (am_gi 608 (by decide +kernel) rfl)
theorem lk3_112 : am_lk RX3 112 (⟨"java/lang/System", "arraycopy", "(Ljava/lang/Object;ILjava/lang/Object;II)V"⟩ : MethodName) := Or.inl (am_gi 612 (by decide +kernel) rfl)
theorem lk3_108 : am_lk RX3 108 yX3_isMarked := Or.inl (am_gi 613 (by decide +kernel) rfl)
theorem lk3_42 : am_lk RX3 42 yX3_pictureAt := Or.inl (am_gi 620 (by decide +kernel) rfl)
theorem lk7_179 : am_lk RX7 179 yX7_countPlaces := Or.inl (am_gi 628 (by decide +kernel) rfl)
theorem lk7_182 : am_lk RX7 182 yX7_leastPlace := Or.inl (am_gi 632 (by decide +kernel) rfl)
theorem lk7_186 : am_lk RX7 186 yX7_calmestPlace := Or.inl (am_gi 636 (by decide +kernel) rfl)
theorem lk0_24 : am_lk RX0 24 yX0_leastEnd := Or.inl (am_gi 649 (by decide +kernel) rfl)
theorem lk0_39 : am_lk RX0 39 yJ9_min_7cf53 := Or.inl (am_gi 657 (by decide +kernel) rfl)
theorem lk0_28 : am_lk RX0 28 yX0_isBetter := Or.inl (am_gi 658 (by decide +kernel) rfl)
theorem lk0_44 : am_lk RX0 44 yJ6_bitCount_0f7a4 := Or.inl (am_gi 661 (by decide +kernel) rfl)
theorem lk0_50 : am_lk RX0 50 yX0_weightOf := Or.inl (am_gi 667 (by decide +kernel) rfl)
theorem lk4_27 : am_lk RX4 27 yX4_matches := Or.inl (am_gi 690 (by decide +kernel) rfl)
theorem lk4_31 : am_lk RX4 31 yX4_measured := Or.inl (am_gi 694 (by decide +kernel) rfl)
theorem lk8_1 : am_lk RX8 1 (⟨"java/lang/Object", "<init>", "()V"⟩ : MethodName) := Or.inl (am_gi 725 (by decide +kernel) rfl)
theorem lk8_53 : am_lk RX8 53 yX8_bares := Or.inl (am_gi 726 (by decide +kernel) rfl)
theorem lk8_67 : am_lk RX8 67 yX8_within := Or.inl (am_gi 797 (by decide +kernel) rfl)
theorem lk8_111 : am_lk RX8 111 yX8_reads := Or.inl (am_gi 808 (by decide +kernel) rfl)
theorem lk8_71 : am_lk RX8 71 yX8_skips := Or.inl (am_gi 812 (by decide +kernel) rfl)
theorem lk8_102 : am_lk RX8 102 yX8_readsItem := Or.inl (am_gi 816 (by decide +kernel) rfl)
theorem lk8_74 : am_lk RX8 74 yX8_isAt := Or.inl (am_gi 820 (by decide +kernel) rfl)
theorem lk8_85 : am_lk RX8 85 yX8_spells := Or.inl (am_gi 824 (by decide +kernel) rfl)
theorem lk8_89 : am_lk RX8 89 yX8_readsWall := Or.inl (am_gi 828 (by decide +kernel) rfl)
theorem lk8_82 : am_lk RX8 82 yX8_puts := Or.inl (am_gi 832 (by decide +kernel) rfl)
theorem lk8_93 : am_lk RX8 93 yX8_readsPicture := Or.inl (am_gi 836 (by decide +kernel) rfl)
theorem lk8_96 : am_lk RX8 96 yX8_readsDoor := Or.inl (am_gi 840 (by decide +kernel) rfl)
theorem lk8_99 : am_lk RX8 99 yX8_readsHole := Or.inl (am_gi 844 (by decide +kernel) rfl)
theorem lk8_105 : am_lk RX8 105 yX8_passesEnd := Or.inl (am_gi 848 (by decide +kernel) rfl)
theorem lk8_115 : am_lk RX8 115 yX8_keeps := Or.inl (am_gi 852 (by decide +kernel) rfl)
theorem lk8_136 : am_lk RX8 136 yX8_isPicture := Or.inl (am_gi 860 (by decide +kernel) rfl)
theorem lk8_122 : am_lk RX8 122 yX8_hangsNow := Or.inl (am_gi 864 (by decide +kernel) rfl)
theorem lk8_139 : am_lk RX8 139 yX8_doesFit := Or.inl (am_gi 868 (by decide +kernel) rfl)
theorem lk8_118 : am_lk RX8 118 yX8_ofPicture := Or.inl (am_gi 872 (by decide +kernel) rfl)
theorem lk8_142 : am_lk RX8 142 yX8_isApart := Or.inl (am_gi 876 (by decide +kernel) rfl)
theorem lk8_145 : am_lk RX8 145 yX8_hasHole := Or.inl (am_gi 880 (by decide +kernel) rfl)
theorem lk8_126 : am_lk RX8 126 yX8_hookX := Or.inl (am_gi 884 (by decide +kernel) rfl)
theorem lk8_129 : am_lk RX8 129 yX8_hookY := Or.inl (am_gi 888 (by decide +kernel) rfl)
theorem lk8_133 : am_lk RX8 133 yX8_holeAt := Or.inl (am_gi 892 (by decide +kernel) rfl)
theorem lk8_148 : am_lk RX8 148 yX8_isHole := Or.inl (am_gi 904 (by decide +kernel) rfl)
theorem lk8_151 : am_lk RX8 151 yX8_hangingAt := Or.inl (am_gi 908 (by decide +kernel) rfl)
theorem lk8_158 : am_lk RX8 158 yX8_momentNow := Or.inl (am_gi 937 (by decide +kernel) rfl)
theorem lk8_155 : am_lk RX8 155 yX8_leanOf := Or.inl (am_gi 941 (by decide +kernel) rfl)
theorem lk8_161 : am_lk RX8 161 yX8_off := Or.inl (am_gi 945 (by decide +kernel) rfl)
theorem lk8_177 : am_lk RX8 177 yX8_findsBest := Or.inl (am_gi 952 (by decide +kernel) rfl)
theorem lk8_167 : am_lk RX8 167 yX8_laysPlaces := Or.inl (am_gi 956 (by decide +kernel) rfl)
theorem lk8_170 : am_lk RX8 170 yX8_isOrder := Or.inl (am_gi 960 (by decide +kernel) rfl)
theorem lk8_173 : am_lk RX8 173 yX8_tries := Or.inl (am_gi 964 (by decide +kernel) rfl)
theorem lk8_180 : am_lk RX8 180 yX8_tellPlaces := Or.inl (am_gi 972 (by decide +kernel) rfl)
theorem lk8_186 : am_lk RX8 186 yX8_reachOf := Or.inl (am_gi 980 (by decide +kernel) rfl)
theorem lk8_183 : am_lk RX8 183 yX8_has := Or.inl (am_gi 984 (by decide +kernel) rfl)
theorem lk8_192 : am_lk RX8 192 yX8_isSeen := Or.inl (am_gi 999 (by decide +kernel) rfl)
theorem lk8_195 : am_lk RX8 195 yX8_hanging := Or.inl (am_gi 1007 (by decide +kernel) rfl)
theorem lk7_19 : am_lk RX7 19 yX2_init := Or.inr ⟨"HungPictures", am_nm1 0 rfl⟩
theorem lk2_11 : am_lk RX2 11 yX5_init := Or.inr ⟨"HungPictures", am_nm1 1 rfl⟩
theorem lk7_26 : am_lk RX7 26 yX6_init := Or.inr ⟨"HungPictures", am_nm1 2 rfl⟩
theorem lk7_36 : am_lk RX7 36 yX1_init := Or.inr ⟨"HungPictures", am_nm1 3 rfl⟩
theorem lk1_17 : am_lk RX1 17 yX6_init := Or.inr ⟨"HungPictures", am_nm1 4 rfl⟩
theorem lk7_43 : am_lk RX7 43 yX3_init := Or.inr ⟨"HungPictures", am_nm1 5 rfl⟩
theorem lk7_54 : am_lk RX7 54 yX0_init := Or.inr ⟨"HungPictures", am_nm1 6 rfl⟩
theorem lk7_61 : am_lk RX7 61 yX4_init := Or.inr ⟨"HungPictures", am_nm1 7 rfl⟩
theorem lk7_74 : am_lk RX7 74 yX2_readInto := Or.inr ⟨"HungPictures", am_nm1 8 rfl⟩
theorem lk2_18 : am_lk RX2 18 yX5_cut := Or.inr ⟨"HungPictures", am_nm1 9 rfl⟩
theorem lk2_30 : am_lk RX2 30 yX6_makeBare := Or.inr ⟨"HungPictures", am_nm1 10 rfl⟩
theorem lk2_102 : am_lk RX2 102 yX6_addPicture := Or.inr ⟨"HungPictures", am_nm1 11 rfl⟩
theorem lk2_106 : am_lk RX2 106 yX6_addDoor := Or.inr ⟨"HungPictures", am_nm1 12 rfl⟩
theorem lk2_110 : am_lk RX2 110 yX6_findHole := Or.inr ⟨"HungPictures", am_nm1 13 rfl⟩
theorem lk2_114 : am_lk RX2 114 yX6_addHole := Or.inr ⟨"HungPictures", am_nm1 14 rfl⟩
theorem lk7_220 : am_lk RX7 220 yX1_add := Or.inr ⟨"HungPictures", am_nm1 15 rfl⟩
theorem lk1_25 : am_lk RX1 25 yX6_copyFrom := Or.inr ⟨"HungPictures", am_nm1 16 rfl⟩
theorem lk7_81 : am_lk RX7 81 yX6_copyFrom := Or.inr ⟨"HungPictures", am_nm1 17 rfl⟩
theorem lk7_85 : am_lk RX7 85 yX6_hasPicture := Or.inr ⟨"HungPictures", am_nm1 18 rfl⟩
theorem lk7_89 : am_lk RX7 89 yX6_isUp := Or.inr ⟨"HungPictures", am_nm1 19 rfl⟩
theorem lk7_92 : am_lk RX7 92 yX6_isFreeFor := Or.inr ⟨"HungPictures", am_nm1 20 rfl⟩
theorem lk7_96 : am_lk RX7 96 yX6_hasHoleFor := Or.inr ⟨"HungPictures", am_nm1 21 rfl⟩
theorem lk7_102 : am_lk RX7 102 yX6_putUp := Or.inr ⟨"HungPictures", am_nm1 22 rfl⟩
theorem lk7_109 : am_lk RX7 109 yX6_hasHole := Or.inr ⟨"HungPictures", am_nm1 23 rfl⟩
theorem lk7_112 : am_lk RX7 112 yX6_findPictureOn := Or.inr ⟨"HungPictures", am_nm1 24 rfl⟩
theorem lk7_116 : am_lk RX7 116 yX6_removeHole := Or.inr ⟨"HungPictures", am_nm1 25 rfl⟩
theorem lk7_123 : am_lk RX7 123 yX6_takeAllDown := Or.inr ⟨"HungPictures", am_nm1 26 rfl⟩
theorem lk7_126 : am_lk RX7 126 yX1_giveLatestTo := Or.inr ⟨"HungPictures", am_nm1 27 rfl⟩
theorem lk7_146 : am_lk RX7 146 yX6_hookY := Or.inr ⟨"HungPictures", am_nm1 28 rfl⟩
theorem lk7_155 : am_lk RX7 155 yX6_hasDoor := Or.inr ⟨"HungPictures", am_nm1 29 rfl⟩
theorem lk7_164 : am_lk RX7 164 yX6_momentNow := Or.inr ⟨"HungPictures", am_nm1 30 rfl⟩
theorem lk7_173 : am_lk RX7 173 yX3_search := Or.inr ⟨"HungPictures", am_nm1 31 rfl⟩
theorem lk3_77 : am_lk RX3 77 yX6_hasPicture := Or.inr ⟨"HungPictures", am_nm1 32 rfl⟩
theorem lk3_81 : am_lk RX3 81 yX6_fits := Or.inr ⟨"HungPictures", am_nm1 33 rfl⟩
theorem lk3_85 : am_lk RX3 85 yX6_hasHoleFor := Or.inr ⟨"HungPictures", am_nm1 34 rfl⟩
theorem lk3_70 : am_lk RX3 70 yX6_momentAt := Or.inr ⟨"HungPictures", am_nm1 35 rfl⟩
theorem lk7_176 : am_lk RX7 176 yX3_answer := Or.inr ⟨"HungPictures", am_nm1 36 rfl⟩
theorem lk7_222 : am_lk RX7 222 yX6_momentAt := Or.inr ⟨"HungPictures", am_nm1 37 rfl⟩
theorem lk7_189 : am_lk RX7 189 yX0_largestSet := Or.inr ⟨"HungPictures", am_nm1 38 rfl⟩
theorem lk0_32 : am_lk RX0 32 yX6_firstFit := Or.inr ⟨"HungPictures", am_nm1 39 rfl⟩
theorem lk7_196 : am_lk RX7 196 yX4_add := Or.inr ⟨"HungPictures", am_nm1 40 rfl⟩
theorem lk7_199 : am_lk RX7 199 yX4_countMatches := Or.inr ⟨"HungPictures", am_nm1 41 rfl⟩
theorem lk4_35 : am_lk RX4 35 yX6_hasPicture := Or.inr ⟨"HungPictures", am_nm1 42 rfl⟩
theorem lk4_49 : am_lk RX4 49 yX6_hookY := Or.inr ⟨"HungPictures", am_nm1 43 rfl⟩
theorem lk7_202 : am_lk RX7 202 yX4_leastMatch := Or.inr ⟨"HungPictures", am_nm1 44 rfl⟩
theorem lk7_205 : am_lk RX7 205 yX6_countUp := Or.inr ⟨"HungPictures", am_nm1 45 rfl⟩
theorem nw7_17 : am_nw RX7 17 2 := ⟨by decide, am_gi 25 (by decide +kernel) rfl, am_gi 26 (by decide +kernel) rfl, am_gi 2 (by decide +kernel) rfl⟩
theorem nw2_9 : am_nw RX2 9 5 := ⟨by decide, am_gi 31 (by decide +kernel) rfl, am_gi 32 (by decide +kernel) rfl, am_gi 3 (by decide +kernel) rfl⟩
theorem nw7_24 : am_nw RX7 24 6 := ⟨by decide, am_gi 74 (by decide +kernel) rfl, am_gi 75 (by decide +kernel) rfl, am_gi 4 (by decide +kernel) rfl⟩
theorem nw7_34 : am_nw RX7 34 1 := ⟨by decide, am_gi 163 (by decide +kernel) rfl, am_gi 164 (by decide +kernel) rfl, am_gi 5 (by decide +kernel) rfl⟩
theorem nw1_9 : am_nw RX1 9 6 := ⟨by decide, am_gi 169 (by decide +kernel) rfl, am_gi 75 (by decide +kernel) rfl, am_gi 4 (by decide +kernel) rfl⟩
theorem nw7_41 : am_nw RX7 41 3 := ⟨by decide, am_gi 180 (by decide +kernel) rfl, am_gi 181 (by decide +kernel) rfl, am_gi 6 (by decide +kernel) rfl⟩
theorem nw7_52 : am_nw RX7 52 0 := ⟨by decide, am_gi 230 (by decide +kernel) rfl, am_gi 231 (by decide +kernel) rfl, am_gi 7 (by decide +kernel) rfl⟩
theorem nw7_59 : am_nw RX7 59 4 := ⟨by decide, am_gi 240 (by decide +kernel) rfl, am_gi 241 (by decide +kernel) rfl, am_gi 8 (by decide +kernel) rfl⟩
theorem kc7_133 : Cond.constant RX7 133 (-1000000) ∈ am_g := am_gi 555 (by decide +kernel) rfl
theorem kcJ6_265 : Cond.constant RJ6 265 (1431655765) ∈ am_g := am_gi 664 (by decide +kernel) rfl
theorem kcJ6_266 : Cond.constant RJ6 266 (858993459) ∈ am_g := am_gi 665 (by decide +kernel) rfl
theorem kcJ6_267 : Cond.constant RJ6 267 (252645135) ∈ am_g := am_gi 666 (by decide +kernel) rfl
theorem kc4_39 : Cond.constant RX4 39 (-1000000) ∈ am_g := am_gi 698 (by decide +kernel) rfl
theorem kc8_154 : Cond.constant RX8 154 (-1000000) ∈ am_g := am_gi 924 (by decide +kernel) rfl
theorem jm_abs : Cond.static Lib.Math.abs.name ∈ am_g ∧ Cond.initialized "java/lang/Math" ∈ am_g ∧ Cond.code Lib.Math.abs.name Lib.Math.abs.code 1 (some .int) ∈ am_g := ⟨am_gi 582 (by decide +kernel) rfl, am_gi 14 (by decide +kernel) rfl, am_gi 583 (by decide +kernel) rfl⟩
theorem jm_max : Cond.static Lib.Math.max.name ∈ am_g ∧ Cond.initialized "java/lang/Math" ∈ am_g ∧ Cond.code Lib.Math.max.name Lib.Math.max.code 2 (some .int) ∈ am_g := ⟨am_gi 398 (by decide +kernel) rfl, am_gi 14 (by decide +kernel) rfl, am_gi 399 (by decide +kernel) rfl⟩
theorem jm_min : Cond.static Lib.Math.min.name ∈ am_g ∧ Cond.initialized "java/lang/Math" ∈ am_g ∧ Cond.code Lib.Math.min.name Lib.Math.min.code 2 (some .int) ∈ am_g := ⟨am_gi 383 (by decide +kernel) rfl, am_gi 14 (by decide +kernel) rfl, am_gi 384 (by decide +kernel) rfl⟩
theorem jm_copy : Cond.native arraycopyName ∈ am_g ∧ Cond.static arraycopyName ∈ am_g ∧ Cond.initialized "java/lang/System" ∈ am_g := ⟨am_gi 467 (by decide +kernel) rfl, am_gi 466 (by decide +kernel) rfl, am_gi 15 (by decide +kernel) rfl⟩
theorem jm_obj : Cond.instanceMethod objectInit ∈ am_g ∧ Cond.code objectInit ⟨#[0xb1]⟩ 1 none ∈ am_g := ⟨am_gi 23 (by decide +kernel) rfl, am_gi 24 (by decide +kernel) rfl⟩
theorem jm_aint : Cond.arrayClass .int ∈ am_g := am_gi 54 (by decide +kernel) rfl
theorem jm_along : Cond.arrayClass .long ∈ am_g := am_gi 229 (by decide +kernel) rfl
theorem jm_aboolean : Cond.arrayClass .boolean ∈ am_g := am_gi 294 (by decide +kernel) rfl
end
section
/-! The machine of this claim, seen by cell numbers: a cell i lies at z + i (the first cell that the law makes is 0); its kind, length, ints, longs and references are functions of its number. AW: from this pc the method comes to its return with Q. Ct: a method's contract. A row an instruction. -/
abbrev am_G : Type := Nat × (Nat → Nat) × (Nat → Nat)
abbrev am_I : Type := Nat → Nat → Int32
abbrev am_J : Type := Nat → Nat → Int64
abbrev am_O : Type := Nat → Nat → Option Nat
abbrev am_Po : Type := Option Value → am_G → am_I → am_J → am_O → Prop
theorem am_lt9 {P : Nat → Prop} (h0 : P 0) (h1 : P 1) (h2 : P 2) (h3 : P 3) (h4 : P 4) (h5 : P 5) (h6 : P 6) (h7 : P 7) (h8 : P 8) : ∀ c, c < 9 → P c
  | 0, _ => h0
  | 1, _ => h1
  | 2, _ => h2
  | 3, _ => h3
  | 4, _ => h4
  | 5, _ => h5
  | 6, _ => h6
  | 7, _ => h7
  | 8, _ => h8
  | c + 9, h => absurd h (by omega)
theorem am_cl : ∀ c, c < 9 → vwCl[c]? = some (am_C c, am_T c, am_N c) := am_lt9 rfl rfl rfl rfl rfl rfl rfl rfl rfl
theorem am_in : ∀ c, c < 9 → ∀ w ∈ u_ws (am_C c) (am_T c) (am_N c), w ∈ am_g := am_lt9 inl0 inl1 inl2 inl3 inl4 inl5 inl6 inl7 inl8
theorem am_tyok : ∀ c, c < 9 → ∀ k, k < am_N c → parseFieldDescriptor (am_T c k).2.2.1 = some (am_ty c k) := am_lt9 tyX0_ok tyX1_ok tyX2_ok tyX3_ok tyX4_ok tyX5_ok tyX6_ok tyX7_ok tyX8_ok
theorem am_nm : ∀ c, c < 9 → ∀ a, a < am_N c → ∀ b, b < am_N c → a ≠ b → (am_T c a).2.1 ≠ (am_T c b).2.1 := am_lt9 nmX0 nmX1 nmX2 nmX3 nmX4 nmX5 nmX6 nmX7 nmX8
/-- where cell i lies; from 1000 on: the String constants -/
def am_as (z : Nat) (sk : Nat → Nat) (i : Nat) : Nat := if i < 1000 then z + i else sk (i - 1000)
theorem am_as_lt {z : Nat} {sk : Nat → Nat} {i : Nat} (h : i < 1000) : am_as z sk i = z + i := if_pos h
def am_cv (f : Nat → Nat) (v : Value) : Value := match v with
  | .ref i => .ref (f i)
  | v => v
def am_fs (f : Nat → Nat) (c : Nat) (I : Nat → Int32) (O : Nat → Option Nat) : List Value := (List.range (am_N c)).map (fun k => if am_rf c k = true then va_rf ((O k).map f) else .int (I k))
def am_ce (f : Nat → Nat) (cy : Nat → ClassId) (g : am_G) (M : am_I) (V : am_J) (R : am_O) (i : Nat) : va_E := match g.2.1 i with
  | 0 => .inl (cy 0, g.2.2 i, .inl (M i))
  | 1 => .inl (cy 1, g.2.2 i, .inr (.inl (V i)))
  | 2 => .inl (cy 2, g.2.2 i, .inl (M i))
  | 3 => .inl (cy 3, g.2.2 i, .inr (.inr (.inr (.inr (fun k => (R i k).map f)))))
  | c + 4 => .inr (c, am_fs f c (M i) (R i))
def am_ws (z : Nat) (f : Nat → Nat) (cy : Nat → ClassId) (g : am_G) (M : am_I) (V : am_J) (R : am_O) : va_W := (List.range g.1).map (fun i => (z + i, am_ce f cy g M V R i))
abbrev am_tys (cy : Nat → ClassId) : List (ClassId × FieldType) := [(cy 0, .int), (cy 1, .long), (cy 2, .boolean), (cy 3, .object RX6)]
abbrev am_A (z : Nat) : Nat → Prop := fun q => z ≤ q
def am_R (z : Nat) (sk : Nat → Nat) (D : va_G) (cy : Nat → ClassId) (g : am_G) (M : am_I) (V : am_J) (R : am_O) (H : Heap) : Prop := g.1 ≤ 1000 ∧ va_P D vwCl (am_ws z (am_as z sk) cy g M V R) H
theorem am_get {z : Nat} {f : Nat → Nat} {cy : Nat → ClassId} {g : am_G} {M : am_I} {V : am_J} {R : am_O} {i : Nat} (h : i < g.1) : (am_ws z f cy g M V R)[i]? = some (z + i, am_ce f cy g M V R i) := by
  simp [am_ws, h]
theorem am_get_inv {z : Nat} {f : Nat → Nat} {cy : Nat → ClassId} {g : am_G} {M : am_I} {V : am_J} {R : am_O} {i : Nat} {q : Nat × va_E} (h : (am_ws z f cy g M V R)[i]? = some q) : i < g.1 ∧ q = (z + i, am_ce f cy g M V R i) := by
  have hl : i < (am_ws z f cy g M V R).length := (List.getElem?_eq_some_iff.mp h).1
  have hl2 : i < g.1 := by simpa [am_ws] using hl
  rw [am_get hl2] at h
  exact ⟨hl2, (Option.some.inj h).symm⟩
theorem am_D {z : Nat} {f : Nat → Nat} {cy : Nat → ClassId} {g : am_G} {M : am_I} {V : am_J} {R : am_O} : va_D (am_A z) (am_ws z f cy g M V R) := by
  refine ⟨fun i j x y hx hy hxy => ?_, fun k q hk => ?_⟩
  · obtain ⟨-, rfl⟩ := am_get_inv hx
    obtain ⟨-, rfl⟩ := am_get_inv hy
    have h : z + i = z + j := hxy
    omega
  · obtain ⟨-, rfl⟩ := am_get_inv hk
    exact Nat.le_add_right z k
theorem am_set {z : Nat} {f : Nat → Nat} {cy : Nat → ClassId} {g : am_G} {M M' : am_I} {V V' : am_J} {R R' : am_O} {i : Nat} {e : va_E} (hi : i < g.1) (he : am_ce f cy g M' V' R' i = e) (ho : ∀ j, j ≠ i → am_ce f cy g M' V' R' j = am_ce f cy g M V R j) : (am_ws z f cy g M V R).set i (z + i, e) = am_ws z f cy g M' V' R' := by
  apply List.ext_getElem?
  intro j
  have hl : i < (am_ws z f cy g M V R).length := by simpa [am_ws] using hi
  by_cases hj : j = i
  · subst hj
    rw [List.getElem?_set_self hl, am_get hi, he]
  · rw [List.getElem?_set_ne (Ne.symm hj)]
    simp only [am_ws, List.getElem?_map]
    by_cases hk : j < g.1
    · rw [List.getElem?_range hk]
      simp only [Option.map_some, ho j hj]
    · rw [List.getElem?_eq_none (by simpa using hk)]
      rfl
/-- a value put at a place of a cell -/
def am_up {α : Type} (M : Nat → Nat → α) (r k : Nat) (v : α) : Nat → Nat → α := fun i j => if i = r then (if j = k then v else M i j) else M i j
theorem am_up_ne {α : Type} {M : Nat → Nat → α} {r k : Nat} {v : α} {i : Nat} (h : i ≠ r) : am_up M r k v i = M i := by
  funext j
  simp [am_up, h]
theorem am_up_self {α : Type} {M : Nat → Nat → α} {r k : Nat} {v : α} : am_up M r k v r = fun j => if j = k then v else M r j := by
  funext j
  simp [am_up]
/-- a cell's row put whole -/
def am_row {α : Type} (M : Nat → Nat → α) (r : Nat) (f : Nat → α) : Nat → Nat → α := fun i => if i = r then f else M i
theorem am_ceM {f : Nat → Nat} {cy : Nat → ClassId} {g : am_G} {M M' : am_I} {V : am_J} {R : am_O} {j : Nat} (h : M' j = M j) : am_ce f cy g M' V R j = am_ce f cy g M V R j := by
  simp [am_ce, h]
theorem am_ceV {f : Nat → Nat} {cy : Nat → ClassId} {g : am_G} {M : am_I} {V V' : am_J} {R : am_O} {j : Nat} (h : V' j = V j) : am_ce f cy g M V' R j = am_ce f cy g M V R j := by
  simp [am_ce, h]
theorem am_ceR {f : Nat → Nat} {cy : Nat → ClassId} {g : am_G} {M : am_I} {V : am_J} {R R' : am_O} {j : Nat} (h : R' j = R j) : am_ce f cy g M V R' j = am_ce f cy g M V R j := by
  simp [am_ce, h]
/-- an object of class c at cell r; an array of kind t and length n -/
abbrev am_ob (g : am_G) (r c : Nat) : Prop := r < g.1 ∧ g.2.1 r = c + 4
abbrev am_ar (g : am_G) (r t n : Nat) : Prop := r < g.1 ∧ g.2.1 r = t ∧ g.2.2 r = n
theorem am_ce_ob {f : Nat → Nat} {cy : Nat → ClassId} {g : am_G} {M : am_I} {V : am_J} {R : am_O} {r c : Nat} (h : g.2.1 r = c + 4) : am_ce f cy g M V R r = .inr (c, am_fs f c (M r) (R r)) := by
  unfold am_ce; rw [h]
theorem am_ce_0 {f : Nat → Nat} {cy : Nat → ClassId} {g : am_G} {M : am_I} {V : am_J} {R : am_O} {r : Nat} (h : g.2.1 r = 0) : am_ce f cy g M V R r = .inl (cy 0, g.2.2 r, .inl (M r)) := by
  unfold am_ce; rw [h]
theorem am_ce_1 {f : Nat → Nat} {cy : Nat → ClassId} {g : am_G} {M : am_I} {V : am_J} {R : am_O} {r : Nat} (h : g.2.1 r = 1) : am_ce f cy g M V R r = .inl (cy 1, g.2.2 r, .inr (.inl (V r))) := by
  unfold am_ce; rw [h]
theorem am_ce_2 {f : Nat → Nat} {cy : Nat → ClassId} {g : am_G} {M : am_I} {V : am_J} {R : am_O} {r : Nat} (h : g.2.1 r = 2) : am_ce f cy g M V R r = .inl (cy 2, g.2.2 r, .inl (M r)) := by
  unfold am_ce; rw [h]
theorem am_ce_3 {f : Nat → Nat} {cy : Nat → ClassId} {g : am_G} {M : am_I} {V : am_J} {R : am_O} {r : Nat} (h : g.2.1 r = 3) : am_ce f cy g M V R r = .inl (cy 3, g.2.2 r, .inr (.inr (.inr (.inr (fun k => (R r k).map f))))) := by
  unfold am_ce; rw [h]
theorem am_fs_get {f : Nat → Nat} {c k : Nat} {I : Nat → Int32} {O : Nat → Option Nat} (h : k < am_N c) : (am_fs f c I O)[k]? = some (if am_rf c k = true then va_rf ((O k).map f) else .int (I k)) := by
  simp [am_fs, h]
theorem am_fs_len {f : Nat → Nat} {c : Nat} {I : Nat → Int32} {O : Nat → Option Nat} : (am_fs f c I O).length = am_N c := by simp [am_fs]
theorem am_fs_set {f : Nat → Nat} {c k : Nat} {I I' : Nat → Int32} {O O' : Nat → Option Nat} {v : Value} (hk : k < am_N c) (hv : (if am_rf c k = true then va_rf ((O' k).map f) else .int (I' k)) = v) (hI : ∀ j, j ≠ k → I' j = I j) (hO : ∀ j, j ≠ k → O' j = O j) : (am_fs f c I O).set k v = am_fs f c I' O' := by
  apply List.ext_getElem?
  intro j
  have hl : k < (am_fs f c I O).length := by rw [am_fs_len]; exact hk
  by_cases hj : j = k
  · subst hj
    rw [List.getElem?_set_self hl, am_fs_get hk, hv]
  · rw [List.getElem?_set_ne (Ne.symm hj)]
    by_cases hn : j < am_N c
    · rw [am_fs_get hn, am_fs_get hn, hI j hj, hO j hj]
    · rw [List.getElem?_eq_none (by rw [am_fs_len]; omega), List.getElem?_eq_none (by rw [am_fs_len]; omega)]
/-- the String constants of Tokens: length, bytes, place in its pool, text -/
def am_sl : List Nat := [1, 4, 3, 4, 4, 1]
def am_sb : List (List Int32) := [[48], [119, 97, 108, 108], [112, 105, 99], [100, 111, 111, 114], [104, 111, 108, 101], [59]]
def am_sx : List Nat := [61, 63, 65, 67, 69, 55]
def am_st : List String := ["0", "wall", "pic", "door", "hole", ";"]
/-- what lies outside the world and is read: String constants, two statics of the JDK -/
def am_X (z : Nat) (sk : Nat → Nat) (U : State) (H : Heap) : Prop := (∃ adV : Nat → Nat, vk_S 6 am_sl am_sb sk adV (am_A z) U H) ∧ (∀ i : Nat, i < 6 → vk_R RX5 (am_sx.getD i 0) (am_st.getD i "") (sk i) U) ∧ va_Z "java/lang/String" "COMPACT_STRINGS" "Z" (.int 1) (am_A z) U H ∧ va_Zq "jdk/internal/util/Preconditions" "SIOOBE_FORMATTER" "Ljava/util/function/BiFunction;" (am_A z) U H
theorem am_X.warm {z : Nat} {sk : Nat → Nat} {s U : State} {H : Heap} (hW : s.WarmedH U.vm) (hq : ∀ a : Nat, a < s.heap.size → ¬ am_A z a → H[a]? = s.heap[a]?) (h : am_X z sk s s.heap) : am_X z sk U H := by
  obtain ⟨⟨adV, h1⟩, h2, h3, h4⟩ := h
  exact ⟨⟨adV, (h1.moved hW.alike).kept hq⟩, fun i hi => (h2 i hi).warm hW, (h3.moved hW.alike).kept hq, (h4.moved hW.alike).kept hq⟩
theorem am_X.same {z : Nat} {sk : Nat → Nat} {u U : State} {H : Heap} (hv : U.vm = u.vm) (h : am_X z sk u H) : am_X z sk U H := by
  obtain ⟨⟨adV, h1⟩, h2, h3, h4⟩ := h
  have ha : u.vm.Alike U.vm := by rw [hv]; exact Vm.Alike.refl u.vm
  exact ⟨⟨adV, h1.moved ha⟩, fun i hi => (h2 i hi).same hv, h3.moved ha, h4.moved ha⟩
def am_U (z : Nat) (sk : Nat → Nat) (D : va_G) (cy : Nat → ClassId) (U : State) : Prop := va_K D vwCl (am_tys cy) U ∧ (∀ w ∈ am_NW, va_Nw w U) ∧ am_X z sk U U.heap ∧ va_AO RX6 U
theorem am_U.calling {z : Nat} {sk : Nat → Nat} {D : va_G} {cy : Nat → ClassId} {U : State} {gf : JFrame} {mk : MethodId} {a : Array Value} (h : am_U z sk D cy U) : am_U z sk D cy (U.calling gf mk a) :=
  ⟨va_K.moved (u := U) (U := U.calling gf mk a) (Vm.Alike.refl U.vm) h.1, fun w hw => va_Nw.same (am_NW_on w hw) (u := U) (U := U.calling gf mk a) rfl (h.2.1 w hw), am_X.same (u := U) (U := U.calling gf mk a) rfl h.2.2.1, va_AO.moved (u := U) (U := U.calling gf mk a) (Vm.Alike.refl U.vm) h.2.2.2⟩
theorem am_U.warm {z : Nat} {sk : Nat → Nat} {D : va_G} {cy : Nat → ClassId} {s U : State} {locs : List Loc} (hW : s.WarmedH U.vm) (hS : va_S (am_A z) s.heap U.heap locs) (h : am_U z sk D cy s) : am_U z sk D cy U :=
  ⟨va_K.moved hW.alike h.1, fun w hw => am_NW_warm w hw hW (h.2.1 w hw), am_X.warm hW hS.2.1 h.2.2.1, va_AO.moved hW.alike h.2.2.2⟩
/-- the locals -/
def am_lo (f : Nat → Nat) (nL : Nat) (ls : List (Option Value)) (lo : Array Slot) : Prop := lo.size = nL ∧ lv_wf lo ∧ ∀ (n : Nat) (v : Value), ls[n]? = some (some v) → lo[n]? = some (.val (am_cv f v))
def am_c1 (ls : List (Option Value)) : Bool := ls.all (fun o => match o with
  | some (.long _) => false
  | some (.double _) => false
  | _ => true)
def am_ll (f : Nat → Nat) (ls : List (Option Value)) : List (Nat × Value) := (List.range ls.length).filterMap (fun n => match ls[n]? with
  | some (some v) => some (n, am_cv f v)
  | _ => none)
theorem am_ll_mem {f : Nat → Nat} {ls : List (Option Value)} {n : Nat} {v : Value} (h : ls[n]? = some (some v)) : (n, am_cv f v) ∈ am_ll f ls := by
  refine List.mem_filterMap.mpr ⟨n, List.mem_range.mpr (List.getElem?_eq_some_iff.mp h).1, ?_⟩
  rw [h]
theorem am_lo.has {f : Nat → Nat} {nL : Nat} {ls : List (Option Value)} {lo : Array Slot} (h : am_lo f nL ls lo) : lv_has lo nL (am_ll f ls) := by
  refine ⟨h.1, h.2.1, fun q hq => ?_⟩
  obtain ⟨n, -, hn⟩ := List.mem_filterMap.mp hq
  cases hv : ls[n]? with
  | none => rw [hv] at hn; cases hn
  | some o =>
    cases o with
    | none => rw [hv] at hn; cases hn
    | some v =>
      rw [hv] at hn
      have e : (n, am_cv f v) = q := Option.some.inj hn
      rw [← e]
      exact h.2.2 n v hv
theorem am_cv_cat (f : Nat → Nat) (v : Value) : (am_cv f v).category = v.category := by cases v <;> rfl
theorem am_lo.set {f : Nat → Nat} {nL i : Nat} {ls : List (Option Value)} {lo : Array Slot} {x : Value} (hc : am_c1 ls = true) (hi : i < ls.length) (h : lv_has lo nL ((i, am_cv f x) :: (am_ll f ls).filter (fun q => !(q.1 == i) && !(q.1 + 1 == i && q.2.category == 2)))) : am_lo f nL (ls.set i (some x)) lo := by
  refine ⟨h.1, h.2.1, fun n v hn => ?_⟩
  by_cases hni : n = i
  · subst hni
    rw [List.getElem?_set_self hi] at hn
    cases hn
    exact h.2.2 (n, am_cv f x) List.mem_cons_self
  · rw [List.getElem?_set_ne (Ne.symm hni)] at hn
    refine h.2.2 (n, am_cv f v) (List.mem_cons_of_mem _ (List.mem_filter.mpr ⟨am_ll_mem hn, ?_⟩))
    have hc1 := List.all_eq_true.mp hc (some v) (List.mem_of_getElem? hn)
    have hcat : v.category ≠ 2 := by
      cases v <;> simp_all [Value.category]
    simp [hni, am_cv_cat, hcat]
/-- what a method stands on -/
def am_S (μ : am_M) (d : Nat) (z : Nat) (sk : Nat → Nat) (D : va_G) (cy : Nat → ClassId) (p : Program) (Rm : Room) (s : State) (m : MethodId) (args : Array Value) (meth : Method) (c : Code) : Prop :=
  p.tables.exec = Jvm.exec ∧ c.code = μ.2.1 ∧ meth.sig.returnType = μ.2.2.2 ∧ c.maxLocals = μ.2.2.1 ∧ s.vm.findClass μ.1.cls = some m.cls ∧ (∀ w ∈ am_g, w.before args s = true) ∧ meth.locks = false ∧ meth.name = μ.1.name ∧ d ≤ Rm.frames ∧ 64 * d ≤ Rm.locals ∧ am_U z sk D cy s
def am_Q (z : Nat) (sk : Nat → Nat) (D : va_G) (cy : Nat → ClassId) (n1 : Nat) (Q : am_Po) : Array Value → State → Outcome → State → Prop := fun _ st oc t =>
  (∃ (v : Option Value) (g : am_G) (M : am_I) (V : am_J) (R : am_O), oc = .returned (v.map (am_cv (am_as z sk))) ∧ g.1 = n1 ∧ Q v g M V R ∧ am_R z sk D cy g M V R t.heap) ∧ va_F (am_A z) st t
def AW (μ : am_M) (d b1 b2 : Nat) (g : am_G) (pc : Nat) (ls : List (Option Value)) (st : List Value) (M : am_I) (V : am_J) (R : am_O) (Q : am_Po) : Prop :=
  ∀ (p : Program) (l : Launch) (e : Env) (Rm : Room) (s : State) (m : MethodId) (args : Array Value) (below : List Frame) (meth : Method) (c : Code) (H : Heap) (locs : List Loc) (cells slots mc ms n0 z : Nat) (sk : Nat → Nat) (D : va_G) (cy : Nat → ClassId) (lo : Array Slot),
    am_S μ d z sk D cy p Rm s m args meth c → (cells + b1 = mc ∧ slots + b2 ≤ ms) → (mc ≤ Rm.cells ∧ ms ≤ Rm.slots) → (s.heap.size = z + n0 ∧ cells + n0 = g.1) → am_R z sk D cy g M V R H → va_S (am_A z) s.heap H locs → am_lo (am_as z sk) μ.2.2.1 ls lo →
    W p l e Rm s m args below meth c H locs cells slots (MQ below (am_Q z sk D cy (n0 + mc) Q) args s mc ms (am_A z)) (F0 m pc lo (st.map (am_cv (am_as z sk))))
def am_P (z : Nat) (sk : Nat → Nat) (D : va_G) (cy : Nat → ClassId) (av : List Value) (g : am_G) (M : am_I) (V : am_J) (R : am_O) : Array Value → State → Prop := fun v U => v = (av.map (am_cv (am_as z sk))).toArray ∧ am_U z sk D cy U ∧ U.heap.size = z + g.1 ∧ am_R z sk D cy g M V R U.heap
def am_w (μ : am_M) : List Cond := Cond.code μ.1 μ.2.1 μ.2.2.1 μ.2.2.2 :: am_g
abbrev am_rm (d mc ms : Nat) : Room := { frames := d, cells := mc, slots := ms, locals := 64 * d }
def Ct (μ : am_M) (d mc ms : Nat) (av : List Value) (g : am_G) (M : am_I) (V : am_J) (R : am_O) (Q : am_Po) : Prop :=
  ∀ (l : Launch) (z : Nat) (sk : Nat → Nat) (D : va_G) (cy : Nat → ClassId), Met l μ.1 (am_w μ) (am_rm d mc ms) (am_P z sk D cy av g M V R) (am_Q z sk D cy (g.1 + mc) Q) mc ms (am_A z)

section AR
variable {μ : am_M} {d b1 b2 : Nat} {g : am_G} {pc : Nat} {ls : List (Option Value)} {st : List Value} {M : am_I} {V : am_J} {R : am_O} {Q : am_Po}

theorem aw_iconst (q : Nat) {n : Int} {v : Int32} (hd : decode μ.2.1 pc = .ok (.iconst n, 1)) (hp : pc + 1 = q) (hv : Int32.ofInt n = v) (k : AW μ d b1 b2 g q ls (.int v :: st) M V R Q) : AW μ d b1 b2 g pc ls st M V R Q := by
  subst hp
  intro p l e Rm s m args below meth c H locs cells slots mc ms n0 z sk D cy lo S h1 h2 h3 hR hS hL
  exact lv_iconst S.1 S.2.1 hd hv (k p l e Rm s m args below meth c H locs cells slots mc ms n0 z sk D cy lo S h1 h2 h3 hR hS hL)
theorem aw_bipush (q : Nat) {n : Int} {v : Int32} (hd : decode μ.2.1 pc = .ok (.bipush n, 2)) (hp : pc + 2 = q) (hv : (Int8.ofInt n).toInt32 = v) (k : AW μ d b1 b2 g q ls (.int v :: st) M V R Q) : AW μ d b1 b2 g pc ls st M V R Q := by
  subst hp
  intro p l e Rm s m args below meth c H locs cells slots mc ms n0 z sk D cy lo S h1 h2 h3 hR hS hL
  exact lv_bipush S.1 S.2.1 hd hv (k p l e Rm s m args below meth c H locs cells slots mc ms n0 z sk D cy lo S h1 h2 h3 hR hS hL)
theorem aw_sipush (q : Nat) {n : Int} {v : Int32} (hd : decode μ.2.1 pc = .ok (.sipush n, 3)) (hp : pc + 3 = q) (hv : (Int16.ofInt n).toInt32 = v) (k : AW μ d b1 b2 g q ls (.int v :: st) M V R Q) : AW μ d b1 b2 g pc ls st M V R Q := by
  subst hp
  intro p l e Rm s m args below meth c H locs cells slots mc ms n0 z sk D cy lo S h1 h2 h3 hR hS hL
  exact lv_sipush S.1 S.2.1 hd hv (k p l e Rm s m args below meth c H locs cells slots mc ms n0 z sk D cy lo S h1 h2 h3 hR hS hL)
theorem aw_lconst (q : Nat) {n : Fin 2} {v : Int64} (hd : decode μ.2.1 pc = .ok (.lconst n, 1)) (hp : pc + 1 = q) (hv : Int64.ofNat (n : Nat) = v) (k : AW μ d b1 b2 g q ls (.long v :: st) M V R Q) : AW μ d b1 b2 g pc ls st M V R Q := by
  subst hp
  intro p l e Rm s m args below meth c H locs cells slots mc ms n0 z sk D cy lo S h1 h2 h3 hR hS hL
  exact lv_lconst S.1 S.2.1 hd hv (k p l e Rm s m args below meth c H locs cells slots mc ms n0 z sk D cy lo S h1 h2 h3 hR hS hL)
theorem aw_ldc (q : Nat) {idx : Nat} {v : Int32} (hd : decode μ.2.1 pc = .ok (.ldc idx, 2)) (hp : pc + 2 = q) (hw : Cond.constant μ.1.cls idx v ∈ am_g) (k : AW μ d b1 b2 g q ls (.int v :: st) M V R Q) : AW μ d b1 b2 g pc ls st M V R Q := by
  subst hp
  intro p l e Rm s m args below meth c H locs cells slots mc ms n0 z sk D cy lo S h1 h2 h3 hR hS hL
  exact lv_ldc S.1 S.2.1 S.2.2.2.2.1 (S.2.2.2.2.2.1 _ hw) hd (k p l e Rm s m args below meth c H locs cells slots mc ms n0 z sk D cy lo S h1 h2 h3 hR hS hL)
theorem aw_ldcw (q : Nat) {idx : Nat} {v : Int32} (hd : decode μ.2.1 pc = .ok (.ldc_w idx, 3)) (hp : pc + 3 = q) (hw : Cond.constant μ.1.cls idx v ∈ am_g) (k : AW μ d b1 b2 g q ls (.int v :: st) M V R Q) : AW μ d b1 b2 g pc ls st M V R Q := by
  subst hp
  intro p l e Rm s m args below meth c H locs cells slots mc ms n0 z sk D cy lo S h1 h2 h3 hR hS hL
  exact lv_ldcw S.1 S.2.1 S.2.2.2.2.1 (S.2.2.2.2.2.1 _ hw) hd (k p l e Rm s m args below meth c H locs cells slots mc ms n0 z sk D cy lo S h1 h2 h3 hR hS hL)
theorem aw_iload_n (q : Nat) {i : Fin 4} {x : Int32} (hd : decode μ.2.1 pc = .ok (.iload_n i, 1)) (hp : pc + 1 = q) (hl : ls[(i : Nat)]? = some (some (.int x))) (k : AW μ d b1 b2 g q ls (.int x :: st) M V R Q) : AW μ d b1 b2 g pc ls st M V R Q := by
  subst hp
  intro p l e Rm s m args below meth c H locs cells slots mc ms n0 z sk D cy lo S h1 h2 h3 hR hS hL
  exact lv_iload_n S.1 S.2.1 hd rfl (hL.2.2 _ _ hl) (k p l e Rm s m args below meth c H locs cells slots mc ms n0 z sk D cy lo S h1 h2 h3 hR hS hL)
theorem aw_iload (q : Nat) {i : Nat} {x : Int32} (hd : decode μ.2.1 pc = .ok (.iload i, 2)) (hp : pc + 2 = q) (hl : ls[i]? = some (some (.int x))) (k : AW μ d b1 b2 g q ls (.int x :: st) M V R Q) : AW μ d b1 b2 g pc ls st M V R Q := by
  subst hp
  intro p l e Rm s m args below meth c H locs cells slots mc ms n0 z sk D cy lo S h1 h2 h3 hR hS hL
  exact lv_iload S.1 S.2.1 hd (hL.2.2 _ _ hl) (k p l e Rm s m args below meth c H locs cells slots mc ms n0 z sk D cy lo S h1 h2 h3 hR hS hL)
theorem aw_aload_n (q : Nat) {i : Fin 4} {x : Nat} (hd : decode μ.2.1 pc = .ok (.aload_n i, 1)) (hp : pc + 1 = q) (hl : ls[(i : Nat)]? = some (some (.ref x))) (k : AW μ d b1 b2 g q ls (.ref x :: st) M V R Q) : AW μ d b1 b2 g pc ls st M V R Q := by
  subst hp
  intro p l e Rm s m args below meth c H locs cells slots mc ms n0 z sk D cy lo S h1 h2 h3 hR hS hL
  exact lv_aload_n S.1 S.2.1 hd rfl (hL.2.2 _ _ hl) (k p l e Rm s m args below meth c H locs cells slots mc ms n0 z sk D cy lo S h1 h2 h3 hR hS hL)
theorem aw_lload_n (q : Nat) {i : Fin 4} {x : Int64} (hd : decode μ.2.1 pc = .ok (.lload_n i, 1)) (hp : pc + 1 = q) (hl : ls[(i : Nat)]? = some (some (.long x))) (k : AW μ d b1 b2 g q ls (.long x :: st) M V R Q) : AW μ d b1 b2 g pc ls st M V R Q := by
  subst hp
  intro p l e Rm s m args below meth c H locs cells slots mc ms n0 z sk D cy lo S h1 h2 h3 hR hS hL
  exact lv_lload_n S.1 S.2.1 hd rfl (hL.2.2 _ _ hl) (k p l e Rm s m args below meth c H locs cells slots mc ms n0 z sk D cy lo S h1 h2 h3 hR hS hL)
theorem aw_istore_n (q : Nat) {i : Fin 4} {x : Int32} (hd : decode μ.2.1 pc = .ok (.istore_n i, 1)) (hp : pc + 1 = q) (hc : am_c1 ls = true) (hi : (i : Nat) < ls.length) (hm : (i : Nat) < μ.2.2.1) (k : AW μ d b1 b2 g q (ls.set (i : Nat) (some (.int x))) st M V R Q) : AW μ d b1 b2 g pc ls (.int x :: st) M V R Q := by
  subst hp
  intro p l e Rm s m args below meth c H locs cells slots mc ms n0 z sk D cy lo S h1 h2 h3 hR hS hL
  exact lv_istore_n S.1 S.2.1 hd rfl hL.has hm rfl (fun lo' hl' => (k p l e Rm s m args below meth c H locs cells slots mc ms n0 z sk D cy lo' S h1 h2 h3 hR hS (am_lo.set (x := .int x) hc hi hl')))
theorem aw_istore (q : Nat) {i : Nat} {x : Int32} (hd : decode μ.2.1 pc = .ok (.istore i, 2)) (hp : pc + 2 = q) (hc : am_c1 ls = true) (hi : i < ls.length) (hm : i < μ.2.2.1) (k : AW μ d b1 b2 g q (ls.set i (some (.int x))) st M V R Q) : AW μ d b1 b2 g pc ls (.int x :: st) M V R Q := by
  subst hp
  intro p l e Rm s m args below meth c H locs cells slots mc ms n0 z sk D cy lo S h1 h2 h3 hR hS hL
  exact lv_istore S.1 S.2.1 hd hL.has hm rfl (fun lo' hl' => (k p l e Rm s m args below meth c H locs cells slots mc ms n0 z sk D cy lo' S h1 h2 h3 hR hS (am_lo.set (x := .int x) hc hi hl')))
theorem aw_astore_n (q : Nat) {i : Fin 4} {x : Nat} (hd : decode μ.2.1 pc = .ok (.astore_n i, 1)) (hp : pc + 1 = q) (hc : am_c1 ls = true) (hi : (i : Nat) < ls.length) (hm : (i : Nat) < μ.2.2.1) (k : AW μ d b1 b2 g q (ls.set (i : Nat) (some (.ref x))) st M V R Q) : AW μ d b1 b2 g pc ls (.ref x :: st) M V R Q := by
  subst hp
  intro p l e Rm s m args below meth c H locs cells slots mc ms n0 z sk D cy lo S h1 h2 h3 hR hS hL
  exact lv_astore_n S.1 S.2.1 hd rfl hL.has hm rfl (fun lo' hl' => (k p l e Rm s m args below meth c H locs cells slots mc ms n0 z sk D cy lo' S h1 h2 h3 hR hS (am_lo.set (x := .ref x) hc hi hl')))
theorem aw_iinc (q : Nat) {i : Nat} {n : Int} {x v : Int32} (hd : decode μ.2.1 pc = .ok (.iinc i n, 3)) (hp : pc + 3 = q) (hl : ls[i]? = some (some (.int x))) (hv : x + Int32.ofInt n = v) (hc : am_c1 ls = true) (hm : i < μ.2.2.1) (k : AW μ d b1 b2 g q (ls.set i (some (.int v))) st M V R Q) : AW μ d b1 b2 g pc ls st M V R Q := by
  subst hp
  intro p l e Rm s m args below meth c H locs cells slots mc ms n0 z sk D cy lo S h1 h2 h3 hR hS hL
  have hi : i < ls.length := (List.getElem?_eq_some_iff.mp hl).1
  obtain ⟨j, hj⟩ := List.getElem?_of_mem (am_ll_mem (f := am_as z sk) hl)
  exact lv_iinc S.1 S.2.1 hd hL.has (k := j) hj hv hm rfl (fun lo' hl' => k p l e Rm s m args below meth c H locs cells slots mc ms n0 z sk D cy lo' S h1 h2 h3 hR hS (am_lo.set (x := .int v) hc hi hl'))
theorem aw_iadd (q : Nat) {x y : Int32} (hd : decode μ.2.1 pc = .ok (.iadd, 1)) (hp : pc + 1 = q)  (k : AW μ d b1 b2 g q ls (.int (x + y) :: st) M V R Q) : AW μ d b1 b2 g pc ls (.int y :: .int x :: st) M V R Q := by
  subst hp
  intro p l e Rm s m args below meth c H locs cells slots mc ms n0 z sk D cy lo S h1 h2 h3 hR hS hL
  exact lv_iadd S.1 S.2.1 hd (k p l e Rm s m args below meth c H locs cells slots mc ms n0 z sk D cy lo S h1 h2 h3 hR hS hL)
theorem aw_isub (q : Nat) {x y : Int32} (hd : decode μ.2.1 pc = .ok (.isub, 1)) (hp : pc + 1 = q)  (k : AW μ d b1 b2 g q ls (.int (x - y) :: st) M V R Q) : AW μ d b1 b2 g pc ls (.int y :: .int x :: st) M V R Q := by
  subst hp
  intro p l e Rm s m args below meth c H locs cells slots mc ms n0 z sk D cy lo S h1 h2 h3 hR hS hL
  exact lv_isub S.1 S.2.1 hd (k p l e Rm s m args below meth c H locs cells slots mc ms n0 z sk D cy lo S h1 h2 h3 hR hS hL)
theorem aw_imul (q : Nat) {x y : Int32} (hd : decode μ.2.1 pc = .ok (.imul, 1)) (hp : pc + 1 = q)  (k : AW μ d b1 b2 g q ls (.int (x * y) :: st) M V R Q) : AW μ d b1 b2 g pc ls (.int y :: .int x :: st) M V R Q := by
  subst hp
  intro p l e Rm s m args below meth c H locs cells slots mc ms n0 z sk D cy lo S h1 h2 h3 hR hS hL
  exact lv_imul S.1 S.2.1 hd (k p l e Rm s m args below meth c H locs cells slots mc ms n0 z sk D cy lo S h1 h2 h3 hR hS hL)
theorem aw_iand (q : Nat) {x y : Int32} (hd : decode μ.2.1 pc = .ok (.iand, 1)) (hp : pc + 1 = q)  (k : AW μ d b1 b2 g q ls (.int (x &&& y) :: st) M V R Q) : AW μ d b1 b2 g pc ls (.int y :: .int x :: st) M V R Q := by
  subst hp
  intro p l e Rm s m args below meth c H locs cells slots mc ms n0 z sk D cy lo S h1 h2 h3 hR hS hL
  exact lv_iand S.1 S.2.1 hd (k p l e Rm s m args below meth c H locs cells slots mc ms n0 z sk D cy lo S h1 h2 h3 hR hS hL)
theorem aw_ior (q : Nat) {x y : Int32} (hd : decode μ.2.1 pc = .ok (.ior, 1)) (hp : pc + 1 = q)  (k : AW μ d b1 b2 g q ls (.int (x ||| y) :: st) M V R Q) : AW μ d b1 b2 g pc ls (.int y :: .int x :: st) M V R Q := by
  subst hp
  intro p l e Rm s m args below meth c H locs cells slots mc ms n0 z sk D cy lo S h1 h2 h3 hR hS hL
  exact lv_ior S.1 S.2.1 hd (k p l e Rm s m args below meth c H locs cells slots mc ms n0 z sk D cy lo S h1 h2 h3 hR hS hL)
theorem aw_ixor (q : Nat) {x y : Int32} (hd : decode μ.2.1 pc = .ok (.ixor, 1)) (hp : pc + 1 = q)  (k : AW μ d b1 b2 g q ls (.int (x ^^^ y) :: st) M V R Q) : AW μ d b1 b2 g pc ls (.int y :: .int x :: st) M V R Q := by
  subst hp
  intro p l e Rm s m args below meth c H locs cells slots mc ms n0 z sk D cy lo S h1 h2 h3 hR hS hL
  exact lv_ixor S.1 S.2.1 hd (k p l e Rm s m args below meth c H locs cells slots mc ms n0 z sk D cy lo S h1 h2 h3 hR hS hL)
theorem aw_ishl (q : Nat) {x y : Int32} (hd : decode μ.2.1 pc = .ok (.ishl, 1)) (hp : pc + 1 = q)  (k : AW μ d b1 b2 g q ls (.int (x <<< (y &&& 31)) :: st) M V R Q) : AW μ d b1 b2 g pc ls (.int y :: .int x :: st) M V R Q := by
  subst hp
  intro p l e Rm s m args below meth c H locs cells slots mc ms n0 z sk D cy lo S h1 h2 h3 hR hS hL
  exact lv_ishl S.1 S.2.1 hd (k p l e Rm s m args below meth c H locs cells slots mc ms n0 z sk D cy lo S h1 h2 h3 hR hS hL)
theorem aw_ishr (q : Nat) {x y : Int32} (hd : decode μ.2.1 pc = .ok (.ishr, 1)) (hp : pc + 1 = q)  (k : AW μ d b1 b2 g q ls (.int (x >>> (y &&& 31)) :: st) M V R Q) : AW μ d b1 b2 g pc ls (.int y :: .int x :: st) M V R Q := by
  subst hp
  intro p l e Rm s m args below meth c H locs cells slots mc ms n0 z sk D cy lo S h1 h2 h3 hR hS hL
  exact lv_ishr S.1 S.2.1 hd (k p l e Rm s m args below meth c H locs cells slots mc ms n0 z sk D cy lo S h1 h2 h3 hR hS hL)
theorem aw_iushr (q : Nat) {x y v : Int32} (hd : decode μ.2.1 pc = .ok (.iushr, 1)) (hp : pc + 1 = q) (hv : (x.toUInt32 >>> (y.toUInt32 &&& Int32.toUInt32 31)).toInt32 = v) (k : AW μ d b1 b2 g q ls (.int v :: st) M V R Q) : AW μ d b1 b2 g pc ls (.int y :: .int x :: st) M V R Q := by
  subst hp
  intro p l e Rm s m args below meth c H locs cells slots mc ms n0 z sk D cy lo S h1 h2 h3 hR hS hL
  exact lv_iushr S.1 S.2.1 hd hv (k p l e Rm s m args below meth c H locs cells slots mc ms n0 z sk D cy lo S h1 h2 h3 hR hS hL)
theorem aw_idiv (q : Nat) {x y : Int32} (hd : decode μ.2.1 pc = .ok (.idiv, 1)) (hp : pc + 1 = q) (hne : ¬ y = 0) (k : AW μ d b1 b2 g q ls (.int (x / y) :: st) M V R Q) : AW μ d b1 b2 g pc ls (.int y :: .int x :: st) M V R Q := by
  subst hp
  intro p l e Rm s m args below meth c H locs cells slots mc ms n0 z sk D cy lo S h1 h2 h3 hR hS hL
  exact lv_idiv S.1 S.2.1 hd hne (k p l e Rm s m args below meth c H locs cells slots mc ms n0 z sk D cy lo S h1 h2 h3 hR hS hL)
theorem aw_irem (q : Nat) {x y : Int32} (hd : decode μ.2.1 pc = .ok (.irem, 1)) (hp : pc + 1 = q) (hne : ¬ y = 0) (k : AW μ d b1 b2 g q ls (.int (x - x / y * y) :: st) M V R Q) : AW μ d b1 b2 g pc ls (.int y :: .int x :: st) M V R Q := by
  subst hp
  intro p l e Rm s m args below meth c H locs cells slots mc ms n0 z sk D cy lo S h1 h2 h3 hR hS hL
  exact lv_irem S.1 S.2.1 hd hne (k p l e Rm s m args below meth c H locs cells slots mc ms n0 z sk D cy lo S h1 h2 h3 hR hS hL)
theorem aw_ineg (q : Nat) {x : Int32} (hd : decode μ.2.1 pc = .ok (.ineg, 1)) (hp : pc + 1 = q)  (k : AW μ d b1 b2 g q ls (.int (-x) :: st) M V R Q) : AW μ d b1 b2 g pc ls (.int x :: st) M V R Q := by
  subst hp
  intro p l e Rm s m args below meth c H locs cells slots mc ms n0 z sk D cy lo S h1 h2 h3 hR hS hL
  exact lv_ineg S.1 S.2.1 hd (k p l e Rm s m args below meth c H locs cells slots mc ms n0 z sk D cy lo S h1 h2 h3 hR hS hL)
theorem aw_lor (q : Nat) {x y : Int64} (hd : decode μ.2.1 pc = .ok (.lor, 1)) (hp : pc + 1 = q)  (k : AW μ d b1 b2 g q ls (.long (x ||| y) :: st) M V R Q) : AW μ d b1 b2 g pc ls (.long y :: .long x :: st) M V R Q := by
  subst hp
  intro p l e Rm s m args below meth c H locs cells slots mc ms n0 z sk D cy lo S h1 h2 h3 hR hS hL
  exact lv_lor S.1 S.2.1 hd (k p l e Rm s m args below meth c H locs cells slots mc ms n0 z sk D cy lo S h1 h2 h3 hR hS hL)
theorem aw_land (q : Nat) {x y : Int64} (hd : decode μ.2.1 pc = .ok (.land, 1)) (hp : pc + 1 = q)  (k : AW μ d b1 b2 g q ls (.long (x &&& y) :: st) M V R Q) : AW μ d b1 b2 g pc ls (.long y :: .long x :: st) M V R Q := by
  subst hp
  intro p l e Rm s m args below meth c H locs cells slots mc ms n0 z sk D cy lo S h1 h2 h3 hR hS hL
  exact lv_land S.1 S.2.1 hd (k p l e Rm s m args below meth c H locs cells slots mc ms n0 z sk D cy lo S h1 h2 h3 hR hS hL)
theorem aw_lshl (q : Nat) {x v : Int64} {y : Int32} (hd : decode μ.2.1 pc = .ok (.lshl, 1)) (hp : pc + 1 = q) (hv : x <<< (y.toInt64 &&& 63) = v) (k : AW μ d b1 b2 g q ls (.long v :: st) M V R Q) : AW μ d b1 b2 g pc ls (.int y :: .long x :: st) M V R Q := by
  subst hp
  intro p l e Rm s m args below meth c H locs cells slots mc ms n0 z sk D cy lo S h1 h2 h3 hR hS hL
  exact lv_lshl S.1 S.2.1 hd hv (k p l e Rm s m args below meth c H locs cells slots mc ms n0 z sk D cy lo S h1 h2 h3 hR hS hL)
theorem aw_lushr (q : Nat) {x v : Int64} {y : Int32} (hd : decode μ.2.1 pc = .ok (.lushr, 1)) (hp : pc + 1 = q) (hv : (x.toUInt64 >>> (y.toInt64.toUInt64 &&& Int64.toUInt64 63)).toInt64 = v) (k : AW μ d b1 b2 g q ls (.long v :: st) M V R Q) : AW μ d b1 b2 g pc ls (.int y :: .long x :: st) M V R Q := by
  subst hp
  intro p l e Rm s m args below meth c H locs cells slots mc ms n0 z sk D cy lo S h1 h2 h3 hR hS hL
  exact lv_lushr S.1 S.2.1 hd hv (k p l e Rm s m args below meth c H locs cells slots mc ms n0 z sk D cy lo S h1 h2 h3 hR hS hL)
theorem aw_lcmp (q : Nat) {x y : Int64} (hd : decode μ.2.1 pc = .ok (.lcmp, 1)) (hp : pc + 1 = q)  (k : AW μ d b1 b2 g q ls (.int (lg_cmp x y) :: st) M V R Q) : AW μ d b1 b2 g pc ls (.long y :: .long x :: st) M V R Q := by
  subst hp
  intro p l e Rm s m args below meth c H locs cells slots mc ms n0 z sk D cy lo S h1 h2 h3 hR hS hL
  exact W.lcmp S.1 S.2.1 hd (k p l e Rm s m args below meth c H locs cells slots mc ms n0 z sk D cy lo S h1 h2 h3 hR hS hL)
theorem aw_dup (q : Nat) {v : Value} (hd : decode μ.2.1 pc = .ok (.dup, 1)) (hp : pc + 1 = q) (hv : v.category = 1) (k : AW μ d b1 b2 g q ls (v :: v :: st) M V R Q) : AW μ d b1 b2 g pc ls (v :: st) M V R Q := by
  subst hp
  intro p l e Rm s m args below meth c H locs cells slots mc ms n0 z sk D cy lo S h1 h2 h3 hR hS hL
  exact lv_dup S.1 S.2.1 hd (by rw [am_cv_cat]; exact hv) (k p l e Rm s m args below meth c H locs cells slots mc ms n0 z sk D cy lo S h1 h2 h3 hR hS hL)
theorem aw_dup2 (q : Nat) {u v : Value} (hd : decode μ.2.1 pc = .ok (.dup2, 1)) (hp : pc + 1 = q) (hu : u.category = 1) (hv : v.category = 1) (k : AW μ d b1 b2 g q ls (u :: v :: u :: v :: st) M V R Q) : AW μ d b1 b2 g pc ls (u :: v :: st) M V R Q := by
  subst hp
  intro p l e Rm s m args below meth c H locs cells slots mc ms n0 z sk D cy lo S h1 h2 h3 hR hS hL
  exact lv_dup2_11 S.1 S.2.1 hd (by rw [am_cv_cat]; exact hu) (by rw [am_cv_cat]; exact hv) (k p l e Rm s m args below meth c H locs cells slots mc ms n0 z sk D cy lo S h1 h2 h3 hR hS hL)
theorem aw_icmp_eq (t q : Nat) {x y : Int32} {off : Int} (hd : decode μ.2.1 pc = .ok (.if_icmp .eq off, 3)) (ht : (pc : Int) + off = (t : Int)) (hp : pc + 3 = q) (kt : x = y → AW μ d b1 b2 g t ls st M V R Q) (kf : ¬ x = y → AW μ d b1 b2 g q ls st M V R Q) : AW μ d b1 b2 g pc ls (.int y :: .int x :: st) M V R Q := by
  subst hp
  intro p l e Rm s m args below meth c H locs cells slots mc ms n0 z sk D cy lo S h1 h2 h3 hR hS hL
  exact lv_icmp_eq S.1 S.2.1 hd ht (fun q => kt q p l e Rm s m args below meth c H locs cells slots mc ms n0 z sk D cy lo S h1 h2 h3 hR hS hL) (fun q => kf q p l e Rm s m args below meth c H locs cells slots mc ms n0 z sk D cy lo S h1 h2 h3 hR hS hL)
theorem aw_icmp_ne (t q : Nat) {x y : Int32} {off : Int} (hd : decode μ.2.1 pc = .ok (.if_icmp .ne off, 3)) (ht : (pc : Int) + off = (t : Int)) (hp : pc + 3 = q) (kt : ¬ x = y → AW μ d b1 b2 g t ls st M V R Q) (kf : x = y → AW μ d b1 b2 g q ls st M V R Q) : AW μ d b1 b2 g pc ls (.int y :: .int x :: st) M V R Q := by
  subst hp
  intro p l e Rm s m args below meth c H locs cells slots mc ms n0 z sk D cy lo S h1 h2 h3 hR hS hL
  exact lv_icmp_ne S.1 S.2.1 hd ht (fun q => kt q p l e Rm s m args below meth c H locs cells slots mc ms n0 z sk D cy lo S h1 h2 h3 hR hS hL) (fun q => kf q p l e Rm s m args below meth c H locs cells slots mc ms n0 z sk D cy lo S h1 h2 h3 hR hS hL)
theorem aw_icmp_lt (t q : Nat) {x y : Int32} {off : Int} (hd : decode μ.2.1 pc = .ok (.if_icmp .lt off, 3)) (ht : (pc : Int) + off = (t : Int)) (hp : pc + 3 = q) (kt : x < y → AW μ d b1 b2 g t ls st M V R Q) (kf : ¬ x < y → AW μ d b1 b2 g q ls st M V R Q) : AW μ d b1 b2 g pc ls (.int y :: .int x :: st) M V R Q := by
  subst hp
  intro p l e Rm s m args below meth c H locs cells slots mc ms n0 z sk D cy lo S h1 h2 h3 hR hS hL
  exact lv_icmp_lt S.1 S.2.1 hd ht (fun q => kt q p l e Rm s m args below meth c H locs cells slots mc ms n0 z sk D cy lo S h1 h2 h3 hR hS hL) (fun q => kf q p l e Rm s m args below meth c H locs cells slots mc ms n0 z sk D cy lo S h1 h2 h3 hR hS hL)
theorem aw_icmp_ge (t q : Nat) {x y : Int32} {off : Int} (hd : decode μ.2.1 pc = .ok (.if_icmp .ge off, 3)) (ht : (pc : Int) + off = (t : Int)) (hp : pc + 3 = q) (kt : y ≤ x → AW μ d b1 b2 g t ls st M V R Q) (kf : ¬ y ≤ x → AW μ d b1 b2 g q ls st M V R Q) : AW μ d b1 b2 g pc ls (.int y :: .int x :: st) M V R Q := by
  subst hp
  intro p l e Rm s m args below meth c H locs cells slots mc ms n0 z sk D cy lo S h1 h2 h3 hR hS hL
  exact lv_icmp_ge S.1 S.2.1 hd ht (fun q => kt q p l e Rm s m args below meth c H locs cells slots mc ms n0 z sk D cy lo S h1 h2 h3 hR hS hL) (fun q => kf q p l e Rm s m args below meth c H locs cells slots mc ms n0 z sk D cy lo S h1 h2 h3 hR hS hL)
theorem aw_icmp_gt (t q : Nat) {x y : Int32} {off : Int} (hd : decode μ.2.1 pc = .ok (.if_icmp .gt off, 3)) (ht : (pc : Int) + off = (t : Int)) (hp : pc + 3 = q) (kt : y < x → AW μ d b1 b2 g t ls st M V R Q) (kf : ¬ y < x → AW μ d b1 b2 g q ls st M V R Q) : AW μ d b1 b2 g pc ls (.int y :: .int x :: st) M V R Q := by
  subst hp
  intro p l e Rm s m args below meth c H locs cells slots mc ms n0 z sk D cy lo S h1 h2 h3 hR hS hL
  exact lv_icmp_gt S.1 S.2.1 hd ht (fun q => kt q p l e Rm s m args below meth c H locs cells slots mc ms n0 z sk D cy lo S h1 h2 h3 hR hS hL) (fun q => kf q p l e Rm s m args below meth c H locs cells slots mc ms n0 z sk D cy lo S h1 h2 h3 hR hS hL)
theorem aw_icmp_le (t q : Nat) {x y : Int32} {off : Int} (hd : decode μ.2.1 pc = .ok (.if_icmp .le off, 3)) (ht : (pc : Int) + off = (t : Int)) (hp : pc + 3 = q) (kt : x ≤ y → AW μ d b1 b2 g t ls st M V R Q) (kf : ¬ x ≤ y → AW μ d b1 b2 g q ls st M V R Q) : AW μ d b1 b2 g pc ls (.int y :: .int x :: st) M V R Q := by
  subst hp
  intro p l e Rm s m args below meth c H locs cells slots mc ms n0 z sk D cy lo S h1 h2 h3 hR hS hL
  exact lv_icmp_le S.1 S.2.1 hd ht (fun q => kt q p l e Rm s m args below meth c H locs cells slots mc ms n0 z sk D cy lo S h1 h2 h3 hR hS hL) (fun q => kf q p l e Rm s m args below meth c H locs cells slots mc ms n0 z sk D cy lo S h1 h2 h3 hR hS hL)
theorem aw_if_eq (t q : Nat) {x : Int32} {off : Int} (hd : decode μ.2.1 pc = .ok (.ifCond .eq off, 3)) (ht : (pc : Int) + off = (t : Int)) (hp : pc + 3 = q) (kt : x = 0 → AW μ d b1 b2 g t ls st M V R Q) (kf : ¬ x = 0 → AW μ d b1 b2 g q ls st M V R Q) : AW μ d b1 b2 g pc ls (.int x :: st) M V R Q := by
  subst hp
  intro p l e Rm s m args below meth c H locs cells slots mc ms n0 z sk D cy lo S h1 h2 h3 hR hS hL
  exact lv_if_eq S.1 S.2.1 hd ht (fun q => kt q p l e Rm s m args below meth c H locs cells slots mc ms n0 z sk D cy lo S h1 h2 h3 hR hS hL) (fun q => kf q p l e Rm s m args below meth c H locs cells slots mc ms n0 z sk D cy lo S h1 h2 h3 hR hS hL)
theorem aw_if_ne (t q : Nat) {x : Int32} {off : Int} (hd : decode μ.2.1 pc = .ok (.ifCond .ne off, 3)) (ht : (pc : Int) + off = (t : Int)) (hp : pc + 3 = q) (kt : ¬ x = 0 → AW μ d b1 b2 g t ls st M V R Q) (kf : x = 0 → AW μ d b1 b2 g q ls st M V R Q) : AW μ d b1 b2 g pc ls (.int x :: st) M V R Q := by
  subst hp
  intro p l e Rm s m args below meth c H locs cells slots mc ms n0 z sk D cy lo S h1 h2 h3 hR hS hL
  exact lv_if_ne S.1 S.2.1 hd ht (fun q => kt q p l e Rm s m args below meth c H locs cells slots mc ms n0 z sk D cy lo S h1 h2 h3 hR hS hL) (fun q => kf q p l e Rm s m args below meth c H locs cells slots mc ms n0 z sk D cy lo S h1 h2 h3 hR hS hL)
theorem aw_if_lt (t q : Nat) {x : Int32} {off : Int} (hd : decode μ.2.1 pc = .ok (.ifCond .lt off, 3)) (ht : (pc : Int) + off = (t : Int)) (hp : pc + 3 = q) (kt : x < 0 → AW μ d b1 b2 g t ls st M V R Q) (kf : ¬ x < 0 → AW μ d b1 b2 g q ls st M V R Q) : AW μ d b1 b2 g pc ls (.int x :: st) M V R Q := by
  subst hp
  intro p l e Rm s m args below meth c H locs cells slots mc ms n0 z sk D cy lo S h1 h2 h3 hR hS hL
  exact lv_if_lt S.1 S.2.1 hd ht (fun q => kt q p l e Rm s m args below meth c H locs cells slots mc ms n0 z sk D cy lo S h1 h2 h3 hR hS hL) (fun q => kf q p l e Rm s m args below meth c H locs cells slots mc ms n0 z sk D cy lo S h1 h2 h3 hR hS hL)
theorem aw_if_ge (t q : Nat) {x : Int32} {off : Int} (hd : decode μ.2.1 pc = .ok (.ifCond .ge off, 3)) (ht : (pc : Int) + off = (t : Int)) (hp : pc + 3 = q) (kt : 0 ≤ x → AW μ d b1 b2 g t ls st M V R Q) (kf : ¬ 0 ≤ x → AW μ d b1 b2 g q ls st M V R Q) : AW μ d b1 b2 g pc ls (.int x :: st) M V R Q := by
  subst hp
  intro p l e Rm s m args below meth c H locs cells slots mc ms n0 z sk D cy lo S h1 h2 h3 hR hS hL
  exact lv_if_ge S.1 S.2.1 hd ht (fun q => kt q p l e Rm s m args below meth c H locs cells slots mc ms n0 z sk D cy lo S h1 h2 h3 hR hS hL) (fun q => kf q p l e Rm s m args below meth c H locs cells slots mc ms n0 z sk D cy lo S h1 h2 h3 hR hS hL)
theorem aw_if_gt (t q : Nat) {x : Int32} {off : Int} (hd : decode μ.2.1 pc = .ok (.ifCond .gt off, 3)) (ht : (pc : Int) + off = (t : Int)) (hp : pc + 3 = q) (kt : 0 < x → AW μ d b1 b2 g t ls st M V R Q) (kf : ¬ 0 < x → AW μ d b1 b2 g q ls st M V R Q) : AW μ d b1 b2 g pc ls (.int x :: st) M V R Q := by
  subst hp
  intro p l e Rm s m args below meth c H locs cells slots mc ms n0 z sk D cy lo S h1 h2 h3 hR hS hL
  exact lv_if_gt S.1 S.2.1 hd ht (fun q => kt q p l e Rm s m args below meth c H locs cells slots mc ms n0 z sk D cy lo S h1 h2 h3 hR hS hL) (fun q => kf q p l e Rm s m args below meth c H locs cells slots mc ms n0 z sk D cy lo S h1 h2 h3 hR hS hL)
theorem aw_if_le (t q : Nat) {x : Int32} {off : Int} (hd : decode μ.2.1 pc = .ok (.ifCond .le off, 3)) (ht : (pc : Int) + off = (t : Int)) (hp : pc + 3 = q) (kt : x ≤ 0 → AW μ d b1 b2 g t ls st M V R Q) (kf : ¬ x ≤ 0 → AW μ d b1 b2 g q ls st M V R Q) : AW μ d b1 b2 g pc ls (.int x :: st) M V R Q := by
  subst hp
  intro p l e Rm s m args below meth c H locs cells slots mc ms n0 z sk D cy lo S h1 h2 h3 hR hS hL
  exact lv_if_le S.1 S.2.1 hd ht (fun q => kt q p l e Rm s m args below meth c H locs cells slots mc ms n0 z sk D cy lo S h1 h2 h3 hR hS hL) (fun q => kf q p l e Rm s m args below meth c H locs cells slots mc ms n0 z sk D cy lo S h1 h2 h3 hR hS hL)
theorem aw_goto (t : Nat) {off : Int} (hd : decode μ.2.1 pc = .ok (.goto off, 3)) (ht : (pc : Int) + off = (t : Int)) (k : AW μ d b1 b2 g t ls st M V R Q) : AW μ d b1 b2 g pc ls st M V R Q := by
  intro p l e Rm s m args below meth c H locs cells slots mc ms n0 z sk D cy lo S h1 h2 h3 hR hS hL
  exact lv_goto S.1 S.2.1 hd ht (k p l e Rm s m args below meth c H locs cells slots mc ms n0 z sk D cy lo S h1 h2 h3 hR hS hL)
theorem aw_tableOut (t : Nat) {dflt lw hg : Int} {offs : Array Int} {len : Nat} {x : Int32} (hd : decode μ.2.1 pc = .ok (.tableswitch dflt lw hg offs, len)) (h : x.toInt < lw ∨ hg < x.toInt) (ht : (pc : Int) + dflt = (t : Int)) (k : AW μ d b1 b2 g t ls st M V R Q) : AW μ d b1 b2 g pc ls (.int x :: st) M V R Q := by
  intro p l e Rm s m args below meth c H locs cells slots mc ms n0 z sk D cy lo S h1 h2 h3 hR hS hL
  exact lv_tableOut S.1 S.2.1 hd h ht (k p l e Rm s m args below meth c H locs cells slots mc ms n0 z sk D cy lo S h1 h2 h3 hR hS hL)
theorem aw_tableIn (t : Nat) {dflt lw hg off : Int} {offs : Array Int} {len : Nat} {x : Int32} (hd : decode μ.2.1 pc = .ok (.tableswitch dflt lw hg offs, len)) (ha : ¬ x.toInt < lw) (hb : ¬ hg < x.toInt) (ho : offs[(x.toInt - lw).toNat]? = some off) (ht : (pc : Int) + off = (t : Int)) (k : AW μ d b1 b2 g t ls st M V R Q) : AW μ d b1 b2 g pc ls (.int x :: st) M V R Q := by
  intro p l e Rm s m args below meth c H locs cells slots mc ms n0 z sk D cy lo S h1 h2 h3 hR hS hL
  exact lv_tableIn S.1 S.2.1 hd ha hb ho ht (k p l e Rm s m args below meth c H locs cells slots mc ms n0 z sk D cy lo S h1 h2 h3 hR hS hL)
theorem aw_lookup (t : Nat) {dflt off : Int} {ps : Array (Int × Int)} {len : Nat} {x : Int32} (hd : decode μ.2.1 pc = .ok (.lookupswitch dflt ps, len)) (hq : (ps.toList.zip (ps.toList.drop 1)).all (fun (a, next) => a.1 < next.1) = true) (ho : Op.lookupswitch.offset ps.toList dflt x.toInt = off) (ht : (pc : Int) + off = (t : Int)) (k : AW μ d b1 b2 g t ls st M V R Q) : AW μ d b1 b2 g pc ls (.int x :: st) M V R Q := by
  intro p l e Rm s m args below meth c H locs cells slots mc ms n0 z sk D cy lo S h1 h2 h3 hR hS hL
  exact lv_lookup S.1 S.2.1 hd hq ho ht (k p l e Rm s m args below meth c H locs cells slots mc ms n0 z sk D cy lo S h1 h2 h3 hR hS hL)
end AR
end
section
/-! Fields, arrays, what is made, calls, returns of the abstract machine. -/
section AS
variable {μ : am_M} {d b1 b2 : Nat} {g : am_G} {pc : Nat} {ls : List (Option Value)} {st : List Value} {M : am_I} {V : am_J} {R : am_O} {Q : am_Po}

theorem aw_getI (q : Nat) {idx c0 j r : Nat} (hd : decode μ.2.1 pc = .ok (.getfield idx, 3)) (hp : pc + 3 = q) (hf : am_F μ.1.cls idx c0 j false) (ho : am_ob g r c0)  (k : AW μ d b1 b2 g q ls (.int (M r j) :: st) M V R Q) : AW μ d b1 b2 g pc ls (.ref r :: st) M V R Q := by
  subst hp
  intro p l e Rm s m args below meth c H locs cells slots mc ms n0 z sk D cy lo S h1 h2 h3 hR hS hL
  obtain ⟨hx, hb, hret, hml, hown, hts, hlk, hnm, hfr, hlc, hU⟩ := id S
  obtain ⟨hc9, hkN, hrf, hl⟩ := hf
  have he := am_get (z := z) (f := am_as z sk) (cy := cy) (M := M) (V := V) (R := R) ho.1
  rw [am_ce_ob ho.2] at he
  have hv : (am_fs (am_as z sk) c0 (M r) (R r))[j]? = some (.int (M r j)) := by rw [am_fs_get hkN, if_neg (by rw [hrf]; decide)]
  have e1 : am_as z sk r = z + r := am_as_lt (Nat.lt_of_lt_of_le ho.1 hR.1)
  show W p l e Rm s m args below meth c H locs cells slots _ (F0 m pc lo (.ref (am_as z sk r) :: st.map (am_cv (am_as z sk))))
  rw [e1]
  rcases hl with hl | ⟨host, hl⟩
  · exact va_get hx hb hts (am_in c0 hc9) hown hU.1 hR.2 r he (am_cl c0 hc9) j hkN (hts _ hl) (fun _ h => h) hv hd (k p l e Rm s m args below meth c H locs cells slots mc ms n0 z sk D cy lo S h1 h2 h3 hR hS hL)
  · exact va_getN hx hb hts (am_in c0 hc9) hown hU.1 hR.2 r he (am_cl c0 hc9) j hkN (va_Nw.use (am_NW_on _ hl) (hU.2.1 _ hl)) (fun _ h => h) hv hd (k p l e Rm s m args below meth c H locs cells slots mc ms n0 z sk D cy lo S h1 h2 h3 hR hS hL)
theorem aw_getO (q : Nat) {idx c0 j r : Nat} (hd : decode μ.2.1 pc = .ok (.getfield idx, 3)) (hp : pc + 3 = q) (hf : am_F μ.1.cls idx c0 j true) (ho : am_ob g r c0) {i : Nat} (hi : R r j = some i) (k : AW μ d b1 b2 g q ls (.ref i :: st) M V R Q) : AW μ d b1 b2 g pc ls (.ref r :: st) M V R Q := by
  subst hp
  intro p l e Rm s m args below meth c H locs cells slots mc ms n0 z sk D cy lo S h1 h2 h3 hR hS hL
  obtain ⟨hx, hb, hret, hml, hown, hts, hlk, hnm, hfr, hlc, hU⟩ := id S
  obtain ⟨hc9, hkN, hrf, hl⟩ := hf
  have he := am_get (z := z) (f := am_as z sk) (cy := cy) (M := M) (V := V) (R := R) ho.1
  rw [am_ce_ob ho.2] at he
  have hv : (am_fs (am_as z sk) c0 (M r) (R r))[j]? = some (.ref (am_as z sk i)) := by rw [am_fs_get hkN, if_pos hrf, hi]; rfl
  have e1 : am_as z sk r = z + r := am_as_lt (Nat.lt_of_lt_of_le ho.1 hR.1)
  show W p l e Rm s m args below meth c H locs cells slots _ (F0 m pc lo (.ref (am_as z sk r) :: st.map (am_cv (am_as z sk))))
  rw [e1]
  rcases hl with hl | ⟨host, hl⟩
  · exact va_get hx hb hts (am_in c0 hc9) hown hU.1 hR.2 r he (am_cl c0 hc9) j hkN (hts _ hl) (fun _ h => h) hv hd (k p l e Rm s m args below meth c H locs cells slots mc ms n0 z sk D cy lo S h1 h2 h3 hR hS hL)
  · exact va_getN hx hb hts (am_in c0 hc9) hown hU.1 hR.2 r he (am_cl c0 hc9) j hkN (va_Nw.use (am_NW_on _ hl) (hU.2.1 _ hl)) (fun _ h => h) hv hd (k p l e Rm s m args below meth c H locs cells slots mc ms n0 z sk D cy lo S h1 h2 h3 hR hS hL)
theorem aw_putI (q : Nat) {idx c0 j r : Nat} {x : Int32} (hd : decode μ.2.1 pc = .ok (.putfield idx, 3)) (hp : pc + 3 = q) (hf : am_F μ.1.cls idx c0 j false) (hfin : (am_T c0 j).2.2.2 = false) (hft : fits (am_ty c0 j) (.int x) = true) (ho : am_ob g r c0) (k : AW μ d b1 b2 g q ls st (am_up M r j x) V R Q) : AW μ d b1 b2 g pc ls (.int x :: .ref r :: st) M V R Q := by
  subst hp
  intro p l e Rm s m args below meth c H locs cells slots mc ms n0 z sk D cy lo S h1 h2 h3 hR hS hL
  obtain ⟨hx, hb, hret, hml, hown, hts, hlk, hnm, hfr, hlc, hU⟩ := id S
  obtain ⟨hc9, hkN, hrf, hl⟩ := hf
  have he := am_get (z := z) (f := am_as z sk) (cy := cy) (M := M) (V := V) (R := R) ho.1
  rw [am_ce_ob ho.2] at he
  have e1 : am_as z sk r = z + r := am_as_lt (Nat.lt_of_lt_of_le ho.1 hR.1)
  have hw : (am_ws z (am_as z sk) cy g M V R).set r (z + r, .inr (c0, (am_fs (am_as z sk) c0 (M r) (R r)).set j (.int x))) = am_ws z (am_as z sk) cy g (am_up M r j x) V R := by
    refine am_set ho.1 ?_ (fun i hi => am_ceM (am_up_ne hi))
    rw [am_ce_ob ho.2, ← am_fs_set (I := M r) (I' := am_up M r j x r) (O := R r) (O' := R r) (v := .int x) hkN (by rw [if_neg (by rw [hrf]; decide)]; simp [am_up]) (fun i hi => by simp [am_up, hi]) (fun i _ => rfl)]
  show W p l e Rm s m args below meth c H locs cells slots _ (F0 m pc lo (.int x :: .ref (am_as z sk r) :: st.map (am_cv (am_as z sk))))
  rw [e1]
  rcases hl with hl | ⟨host, hl⟩
  · refine va_put hx hb hts (am_in c0 hc9) (am_ty c0) (am_tyok c0 hc9) (am_nm c0 hc9) hown hU.1 hR.2 am_D hS r he (am_cl c0 hc9) j hkN (hts _ hl) (fun _ h => h) hfin (am_tyok c0 hc9 j hkN) (narrow_of_fits hft) hft (by rw [am_fs_len]; exact hkN) hd (fun H1 locs1 hP1 _ hS1 => ?_)
    rw [hw] at hP1
    exact (k p l e Rm s m args below meth c H1 locs1 cells slots mc ms n0 z sk D cy lo S h1 h2 h3 ⟨hR.1, hP1⟩ hS1 hL)
  · refine va_putN hx hb hts (am_in c0 hc9) (am_ty c0) (am_tyok c0 hc9) (am_nm c0 hc9) hown hU.1 hR.2 am_D hS r he (am_cl c0 hc9) j hkN (va_Nw.use (am_NW_on _ hl) (hU.2.1 _ hl)) (fun _ h => h) hfin (am_tyok c0 hc9 j hkN) (narrow_of_fits hft) hft (by rw [am_fs_len]; exact hkN) hd (fun H1 locs1 hP1 _ hS1 => ?_)
    rw [hw] at hP1
    exact (k p l e Rm s m args below meth c H1 locs1 cells slots mc ms n0 z sk D cy lo S h1 h2 h3 ⟨hR.1, hP1⟩ hS1 hL)
theorem aw_putF (q : Nat) {idx c0 j r i : Nat} (hd : decode μ.2.1 pc = .ok (.putfield idx, 3)) (hp : pc + 3 = q) (hf : am_F μ.1.cls idx c0 j true) (hl : Cond.fieldLink μ.1.cls idx (am_T c0 j).1 (am_T c0 j).2.1 (am_T c0 j).2.2.1 ∈ am_g) (hfin : (am_T c0 j).2.2.2 = true) (hi9 : μ.1.name = "<init>") (hdc : (am_T c0 j).1 = μ.1.cls) (ho : am_ob g r c0) (k : AW μ d b1 b2 g q ls st M V (am_up R r j (some i)) Q) : AW μ d b1 b2 g pc ls (.ref i :: .ref r :: st) M V R Q := by
  subst hp
  intro p l e Rm s m args below meth c H locs cells slots mc ms n0 z sk D cy lo S h1 h2 h3 hR hS hL
  obtain ⟨hx, hb, hret, hml, hown, hts, hlk, hnm, hfr, hlc, hU⟩ := id S
  obtain ⟨hc9, hkN, hrf, -⟩ := hf
  have he := am_get (z := z) (f := am_as z sk) (cy := cy) (M := M) (V := V) (R := R) ho.1
  rw [am_ce_ob ho.2] at he
  have e1 : am_as z sk r = z + r := am_as_lt (Nat.lt_of_lt_of_le ho.1 hR.1)
  have hft : fits (am_ty c0 j) (.ref (am_as z sk i)) = true := by
    unfold am_rf at hrf
    cases hty : am_ty c0 j <;> rw [hty] at hrf <;> first | rfl | cases hrf
  have hw : (am_ws z (am_as z sk) cy g M V R).set r (z + r, .inr (c0, (am_fs (am_as z sk) c0 (M r) (R r)).set j (.ref (am_as z sk i)))) = am_ws z (am_as z sk) cy g M V (am_up R r j (some i)) := by
    refine am_set ho.1 ?_ (fun i hi => am_ceR (am_up_ne hi))
    rw [am_ce_ob ho.2, ← am_fs_set (I := M r) (I' := M r) (O := R r) (O' := am_up R r j (some i) r) (v := .ref (am_as z sk i)) hkN (by rw [if_pos hrf]; simp [am_up, va_rf]) (fun i _ => rfl) (fun i hi => by simp [am_up, hi])]
  show W p l e Rm s m args below meth c H locs cells slots _ (F0 m pc lo (.ref (am_as z sk i) :: .ref (am_as z sk r) :: st.map (am_cv (am_as z sk))))
  rw [e1]
  refine va_putF hx hb hts (am_in c0 hc9) (am_ty c0) (am_tyok c0 hc9) (am_nm c0 hc9) hown hU.1 hR.2 am_D hS r he (am_cl c0 hc9) j hkN (hts _ hl) (fun _ h => h) hfin (hnm.trans hi9) hdc (am_tyok c0 hc9 j hkN) (narrow_of_fits hft) hft (by rw [am_fs_len]; exact hkN) hd (fun H1 locs1 hP1 _ hS1 => ?_)
  rw [hw] at hP1
  exact (k p l e Rm s m args below meth c H1 locs1 cells slots mc ms n0 z sk D cy lo S h1 h2 h3 ⟨hR.1, hP1⟩ hS1 hL)
theorem aw_iald (q : Nat) {r n : Nat} {i : Int32} (hd : decode μ.2.1 pc = .ok (.iaload, 1)) (hp : pc + 1 = q) (ha : am_ar g r 0 n) (hi : vp_in i n) (k : AW μ d b1 b2 g q ls (.int (M r i.toNatClampNeg) :: st) M V R Q) : AW μ d b1 b2 g pc ls (.int i :: .ref r :: st) M V R Q := by
  subst hp
  intro p l e Rm s m args below meth c H locs cells slots mc ms n0 z sk D cy lo S h1 h2 h3 hR hS hL
  obtain ⟨hx, hb, hret, hml, hown, hts, hlk, hnm, hfr, hlc, hU⟩ := id S
  have he := am_get (z := z) (f := am_as z sk) (cy := cy) (M := M) (V := V) (R := R) ha.1
  rw [am_ce_0 ha.2.1, ha.2.2] at he
  have e1 : am_as z sk r = z + r := am_as_lt (Nat.lt_of_lt_of_le ha.1 hR.1)
  show W p l e Rm s m args below meth c H locs cells slots _ (F0 m pc lo (.int i :: .ref (am_as z sk r) :: st.map (am_cv (am_as z sk))))
  rw [e1]
  exact va_iald hx hb hU.1 hR.2 r 0 he rfl hi hd (k p l e Rm s m args below meth c H locs cells slots mc ms n0 z sk D cy lo S h1 h2 h3 hR hS hL)
theorem aw_zald (q : Nat) {r n : Nat} {i : Int32} (hd : decode μ.2.1 pc = .ok (.baload, 1)) (hp : pc + 1 = q) (ha : am_ar g r 2 n) (hi : vp_in i n) (k : AW μ d b1 b2 g q ls (.int (M r i.toNatClampNeg) :: st) M V R Q) : AW μ d b1 b2 g pc ls (.int i :: .ref r :: st) M V R Q := by
  subst hp
  intro p l e Rm s m args below meth c H locs cells slots mc ms n0 z sk D cy lo S h1 h2 h3 hR hS hL
  obtain ⟨hx, hb, hret, hml, hown, hts, hlk, hnm, hfr, hlc, hU⟩ := id S
  have he := am_get (z := z) (f := am_as z sk) (cy := cy) (M := M) (V := V) (R := R) ha.1
  rw [am_ce_2 ha.2.1, ha.2.2] at he
  have e1 : am_as z sk r = z + r := am_as_lt (Nat.lt_of_lt_of_le ha.1 hR.1)
  show W p l e Rm s m args below meth c H locs cells slots _ (F0 m pc lo (.int i :: .ref (am_as z sk r) :: st.map (am_cv (am_as z sk))))
  rw [e1]
  exact va_zald hx hb hU.1 hR.2 r 2 he rfl hi hd (k p l e Rm s m args below meth c H locs cells slots mc ms n0 z sk D cy lo S h1 h2 h3 hR hS hL)
theorem aw_lald (q : Nat) {r n : Nat} {i : Int32} (hd : decode μ.2.1 pc = .ok (.laload, 1)) (hp : pc + 1 = q) (ha : am_ar g r 1 n) (hi : vp_in i n) (k : AW μ d b1 b2 g q ls (.long (V r i.toNatClampNeg) :: st) M V R Q) : AW μ d b1 b2 g pc ls (.int i :: .ref r :: st) M V R Q := by
  subst hp
  intro p l e Rm s m args below meth c H locs cells slots mc ms n0 z sk D cy lo S h1 h2 h3 hR hS hL
  obtain ⟨hx, hb, hret, hml, hown, hts, hlk, hnm, hfr, hlc, hU⟩ := id S
  have he := am_get (z := z) (f := am_as z sk) (cy := cy) (M := M) (V := V) (R := R) ha.1
  rw [am_ce_1 ha.2.1, ha.2.2] at he
  have e1 : am_as z sk r = z + r := am_as_lt (Nat.lt_of_lt_of_le ha.1 hR.1)
  show W p l e Rm s m args below meth c H locs cells slots _ (F0 m pc lo (.int i :: .ref (am_as z sk r) :: st.map (am_cv (am_as z sk))))
  rw [e1]
  exact va_lald hx hb hU.1 hR.2 r 1 he rfl hi hd (k p l e Rm s m args below meth c H locs cells slots mc ms n0 z sk D cy lo S h1 h2 h3 hR hS hL)
theorem aw_aald (q : Nat) {r n a : Nat} {i : Int32} (hd : decode μ.2.1 pc = .ok (.aaload, 1)) (hp : pc + 1 = q) (ha : am_ar g r 3 n) (hi : vp_in i n) (hv : R r i.toNatClampNeg = some a) (k : AW μ d b1 b2 g q ls (.ref a :: st) M V R Q) : AW μ d b1 b2 g pc ls (.int i :: .ref r :: st) M V R Q := by
  subst hp
  intro p l e Rm s m args below meth c H locs cells slots mc ms n0 z sk D cy lo S h1 h2 h3 hR hS hL
  obtain ⟨hx, hb, hret, hml, hown, hts, hlk, hnm, hfr, hlc, hU⟩ := id S
  have he := am_get (z := z) (f := am_as z sk) (cy := cy) (M := M) (V := V) (R := R) ha.1
  rw [am_ce_3 ha.2.1, ha.2.2] at he
  have e1 : am_as z sk r = z + r := am_as_lt (Nat.lt_of_lt_of_le ha.1 hR.1)
  have hk := (k p l e Rm s m args below meth c H locs cells slots mc ms n0 z sk D cy lo S h1 h2 h3 hR hS hL)
  show W p l e Rm s m args below meth c H locs cells slots _ (F0 m pc lo (.int i :: .ref (am_as z sk r) :: st.map (am_cv (am_as z sk))))
  rw [e1]
  refine va_aldq hx hb hU.1 hR.2 r 3 he rfl hi hd ?_
  rw [hv]
  exact hk
theorem aw_alen (q : Nat) {r t n : Nat} {v : Int32} (hd : decode μ.2.1 pc = .ok (.arraylength, 1)) (hp : pc + 1 = q) (ha : am_ar g r t n) (ht : t = 0 ∨ t = 2) (hv : Int32.ofNat n = v) (k : AW μ d b1 b2 g q ls (.int v :: st) M V R Q) : AW μ d b1 b2 g pc ls (.ref r :: st) M V R Q := by
  subst hp
  intro p l e Rm s m args below meth c H locs cells slots mc ms n0 z sk D cy lo S h1 h2 h3 hR hS hL
  obtain ⟨hx, hb, hret, hml, hown, hts, hlk, hnm, hfr, hlc, hU⟩ := id S
  have he := am_get (z := z) (f := am_as z sk) (cy := cy) (M := M) (V := V) (R := R) ha.1
  have e1 : am_as z sk r = z + r := am_as_lt (Nat.lt_of_lt_of_le ha.1 hR.1)
  show W p l e Rm s m args below meth c H locs cells slots _ (F0 m pc lo (.ref (am_as z sk r) :: st.map (am_cv (am_as z sk))))
  rw [e1]
  rcases ht with rfl | rfl
  · rw [am_ce_0 ha.2.1, ha.2.2] at he
    exact va_alen hx hb hU.1 hR.2 r 0 he rfl hv hd (k p l e Rm s m args below meth c H locs cells slots mc ms n0 z sk D cy lo S h1 h2 h3 hR hS hL)
  · rw [am_ce_2 ha.2.1, ha.2.2] at he
    exact va_alen hx hb hU.1 hR.2 r 2 he rfl hv hd (k p l e Rm s m args below meth c H locs cells slots mc ms n0 z sk D cy lo S h1 h2 h3 hR hS hL)
theorem aw_iast (q : Nat) {r n : Nat} {i : Int32} {x : Int32} (hd : decode μ.2.1 pc = .ok (.iastore, 1)) (hp : pc + 1 = q) (ha : am_ar g r 0 n) (hi : vp_in i n) (k : AW μ d b1 b2 g q ls st (am_up M r i.toNatClampNeg x) V R Q) : AW μ d b1 b2 g pc ls ((.int x) :: .int i :: .ref r :: st) M V R Q := by
  subst hp
  intro p l e Rm s m args below meth c H locs cells slots mc ms n0 z sk D cy lo S h1 h2 h3 hR hS hL
  obtain ⟨hx, hb, hret, hml, hown, hts, hlk, hnm, hfr, hlc, hU⟩ := id S
  have he := am_get (z := z) (f := am_as z sk) (cy := cy) (M := M) (V := V) (R := R) ha.1
  rw [am_ce_0 ha.2.1, ha.2.2] at he
  have e1 : am_as z sk r = z + r := am_as_lt (Nat.lt_of_lt_of_le ha.1 hR.1)
  have hw : (am_ws z (am_as z sk) cy g M V R).set r (z + r, .inl (cy 0, n, .inl (upd (M r) i.toNatClampNeg x))) = am_ws z (am_as z sk) cy g (am_up M r i.toNatClampNeg x) V R := by
    refine am_set ha.1 ?_ (fun i hi => am_ceM (am_up_ne hi))
    rw [am_ce_0 ha.2.1, ha.2.2, am_up_self]
    rfl
  show W p l e Rm s m args below meth c H locs cells slots _ (F0 m pc lo ((.int x) :: .int i :: .ref (am_as z sk r) :: st.map (am_cv (am_as z sk))))
  rw [e1]
  refine va_iast hx hb hU.1 hR.2 am_D hS r 0 he rfl hi hd (fun H1 locs1 hP1 _ hS1 => ?_)
  rw [hw] at hP1
  exact (k p l e Rm s m args below meth c H1 locs1 cells slots mc ms n0 z sk D cy lo S h1 h2 h3 ⟨hR.1, hP1⟩ hS1 hL)
theorem aw_zast (q : Nat) {r n : Nat} {i : Int32} {x : Int32} (hx9 : vp_nar .boolean x = x) (hd : decode μ.2.1 pc = .ok (.bastore, 1)) (hp : pc + 1 = q) (ha : am_ar g r 2 n) (hi : vp_in i n) (k : AW μ d b1 b2 g q ls st (am_up M r i.toNatClampNeg x) V R Q) : AW μ d b1 b2 g pc ls ((.int x) :: .int i :: .ref r :: st) M V R Q := by
  subst hp
  intro p l e Rm s m args below meth c H locs cells slots mc ms n0 z sk D cy lo S h1 h2 h3 hR hS hL
  obtain ⟨hx, hb, hret, hml, hown, hts, hlk, hnm, hfr, hlc, hU⟩ := id S
  have he := am_get (z := z) (f := am_as z sk) (cy := cy) (M := M) (V := V) (R := R) ha.1
  rw [am_ce_2 ha.2.1, ha.2.2] at he
  have e1 : am_as z sk r = z + r := am_as_lt (Nat.lt_of_lt_of_le ha.1 hR.1)
  have hw : (am_ws z (am_as z sk) cy g M V R).set r (z + r, .inl (cy 2, n, .inl (upd (M r) i.toNatClampNeg x))) = am_ws z (am_as z sk) cy g (am_up M r i.toNatClampNeg x) V R := by
    refine am_set ha.1 ?_ (fun i hi => am_ceM (am_up_ne hi))
    rw [am_ce_2 ha.2.1, ha.2.2, am_up_self]
    rfl
  show W p l e Rm s m args below meth c H locs cells slots _ (F0 m pc lo ((.int x) :: .int i :: .ref (am_as z sk r) :: st.map (am_cv (am_as z sk))))
  rw [e1]
  refine va_zast hx hb hU.1 hR.2 am_D hS r 2 he rfl hi hd (fun H1 locs1 hP1 _ hS1 => ?_)
  rw [hx9] at hP1
  rw [hw] at hP1
  exact (k p l e Rm s m args below meth c H1 locs1 cells slots mc ms n0 z sk D cy lo S h1 h2 h3 ⟨hR.1, hP1⟩ hS1 hL)
theorem aw_last (q : Nat) {r n : Nat} {i : Int32} {x : Int64} (hd : decode μ.2.1 pc = .ok (.lastore, 1)) (hp : pc + 1 = q) (ha : am_ar g r 1 n) (hi : vp_in i n) (k : AW μ d b1 b2 g q ls st M (am_up V r i.toNatClampNeg x) R Q) : AW μ d b1 b2 g pc ls ((.long x) :: .int i :: .ref r :: st) M V R Q := by
  subst hp
  intro p l e Rm s m args below meth c H locs cells slots mc ms n0 z sk D cy lo S h1 h2 h3 hR hS hL
  obtain ⟨hx, hb, hret, hml, hown, hts, hlk, hnm, hfr, hlc, hU⟩ := id S
  have he := am_get (z := z) (f := am_as z sk) (cy := cy) (M := M) (V := V) (R := R) ha.1
  rw [am_ce_1 ha.2.1, ha.2.2] at he
  have e1 : am_as z sk r = z + r := am_as_lt (Nat.lt_of_lt_of_le ha.1 hR.1)
  have hw : (am_ws z (am_as z sk) cy g M V R).set r (z + r, .inl (cy 1, n, .inr (.inl (vp_updL (V r) i.toNatClampNeg x)))) = am_ws z (am_as z sk) cy g M (am_up V r i.toNatClampNeg x) R := by
    refine am_set ha.1 ?_ (fun i hi => am_ceV (am_up_ne hi))
    rw [am_ce_1 ha.2.1, ha.2.2, am_up_self]
    rfl
  show W p l e Rm s m args below meth c H locs cells slots _ (F0 m pc lo ((.long x) :: .int i :: .ref (am_as z sk r) :: st.map (am_cv (am_as z sk))))
  rw [e1]
  refine va_last hx hb hU.1 hR.2 am_D hS r 1 he rfl hi hd (fun H1 locs1 hP1 _ hS1 => ?_)
  rw [hw] at hP1
  exact (k p l e Rm s m args below meth c H1 locs1 cells slots mc ms n0 z sk D cy lo S h1 h2 h3 ⟨hR.1, hP1⟩ hS1 hL)
theorem aw_aast (q : Nat) {r n a : Nat} {i : Int32} (hd : decode μ.2.1 pc = .ok (.aastore, 1)) (hp : pc + 1 = q) (ha : am_ar g r 3 n) (hi : vp_in i n) (ho : am_ob g a 6) (k : AW μ d b1 b2 g q ls st M V (am_up R r i.toNatClampNeg (some a)) Q) : AW μ d b1 b2 g pc ls (.ref a :: .int i :: .ref r :: st) M V R Q := by
  subst hp
  intro p l e Rm s m args below meth c H locs cells slots mc ms n0 z sk D cy lo S h1 h2 h3 hR hS hL
  obtain ⟨hx, hb, hret, hml, hown, hts, hlk, hnm, hfr, hlc, hU⟩ := id S
  have he := am_get (z := z) (f := am_as z sk) (cy := cy) (M := M) (V := V) (R := R) ha.1
  rw [am_ce_3 ha.2.1, ha.2.2] at he
  have hv := am_get (z := z) (f := am_as z sk) (cy := cy) (M := M) (V := V) (R := R) ho.1
  rw [am_ce_ob ho.2] at hv
  have e1 : am_as z sk r = z + r := am_as_lt (Nat.lt_of_lt_of_le ha.1 hR.1)
  have e2 : am_as z sk a = z + a := am_as_lt (Nat.lt_of_lt_of_le ho.1 hR.1)
  have hw : (am_ws z (am_as z sk) cy g M V R).set r (z + r, .inl (cy 3, n, .inr (.inr (.inr (.inr (va_up (fun k => (R r k).map (am_as z sk)) i.toNatClampNeg (some (z + a)))))))) = am_ws z (am_as z sk) cy g M V (am_up R r i.toNatClampNeg (some a)) := by
    refine am_set ha.1 ?_ (fun i hi => am_ceR (am_up_ne hi))
    rw [am_ce_3 ha.2.1, ha.2.2, am_up_self]
    refine congrArg (fun F => Sum.inl (cy 3, n, Sum.inr (Sum.inr (Sum.inr (Sum.inr F))))) (funext fun q => ?_)
    by_cases hq : q = i.toNatClampNeg
    · simp [va_up, hq, e2]
    · simp [va_up, hq]
  show W p l e Rm s m args below meth c H locs cells slots _ (F0 m pc lo (.ref (am_as z sk a) :: .int i :: .ref (am_as z sk r) :: st.map (am_cv (am_as z sk))))
  rw [e1, e2]
  refine va_astq hx hb hU.1 hR.2 am_D hS r 3 a 6 he rfl hv rfl hi hd (fun H1 locs1 hP1 _ hS1 => ?_)
  rw [hw] at hP1
  exact (k p l e Rm s m args below meth c H1 locs1 cells slots mc ms n0 z sk D cy lo S h1 h2 h3 ⟨hR.1, hP1⟩ hS1 hL)
theorem aw_copy (q : Nat) {idx r0 r1 n0 n1 : Nat} {sp dp n : Int32} (hd : decode μ.2.1 pc = .ok (.invokestatic idx, 3)) (hp : pc + 3 = q) (hlk : Cond.methodLink μ.1.cls idx arraycopyName ∈ am_g) (ha0 : am_ar g r0 0 n0) (ha1 : am_ar g r1 0 n1) (g1 : ¬ sp < 0) (g2 : ¬ dp < 0) (g3 : ¬ n < 0) (g4 : sp.toNatClampNeg + n.toNatClampNeg ≤ n0) (g5 : dp.toNatClampNeg + n.toNatClampNeg ≤ n1) (hd1 : 1 ≤ d) (hst : (st.map fun v => v.category).sum ≤ 8) (k : AW μ d b1 b2 g q ls st (am_row M r1 (va_cpy (M r0) (M r1) sp.toNatClampNeg dp.toNatClampNeg n.toNatClampNeg)) V R Q) : AW μ d b1 b2 g pc ls (.int n :: .int dp :: .ref r1 :: .int sp :: .ref r0 :: st) M V R Q := by
  subst hp
  intro p l e Rm s m args below meth c H locs cells slots mc ms nn z sk D cy lo S h1 h2 h3 hR hS hL
  obtain ⟨hx, hb, hret, hml, hown, hts, -, hnm, hfr, hlc, hU⟩ := id S
  have he0 := am_get (z := z) (f := am_as z sk) (cy := cy) (M := M) (V := V) (R := R) ha0.1
  rw [am_ce_0 ha0.2.1, ha0.2.2] at he0
  have he1 := am_get (z := z) (f := am_as z sk) (cy := cy) (M := M) (V := V) (R := R) ha1.1
  rw [am_ce_0 ha1.2.1, ha1.2.2] at he1
  have e0 : am_as z sk r0 = z + r0 := am_as_lt (Nat.lt_of_lt_of_le ha0.1 hR.1)
  have e1 : am_as z sk r1 = z + r1 := am_as_lt (Nat.lt_of_lt_of_le ha1.1 hR.1)
  have hw : (am_ws z (am_as z sk) cy g M V R).set r1 (z + r1, .inl (cy 0, n1, .inl (va_cpy (M r0) (M r1) sp.toNatClampNeg dp.toNatClampNeg n.toNatClampNeg))) = am_ws z (am_as z sk) cy g (am_row M r1 (va_cpy (M r0) (M r1) sp.toNatClampNeg dp.toNatClampNeg n.toNatClampNeg)) V R := by
    refine am_set ha1.1 ?_ (fun i hi => am_ceM (by simp [am_row, hi]))
    rw [am_ce_0 ha1.2.1, ha1.2.2]
    simp [am_row]
  have hcs : ((st.map (am_cv (am_as z sk))).map fun v => v.category).sum = (st.map fun v => v.category).sum := by
    rw [List.map_map]
    congr 1
    exact List.map_congr_left (fun v _ => am_cv_cat _ v)
  show W p l e Rm s m args below meth c H locs cells slots _ (F0 m pc lo (.int n :: .int dp :: .ref (am_as z sk r1) :: .int sp :: .ref (am_as z sk r0) :: st.map (am_cv (am_as z sk))))
  rw [e0, e1]
  refine va_copyi hx hb (hml.trans hL.1.symm) hown (hts _ hlk) (hts _ jm_copy.1) (hts _ jm_copy.2.1) (hts _ jm_copy.2.2) hU.1 hR.2 am_D hS r0 r1 0 0 he0 he1 rfl rfl rfl g1 g2 g3 g4 g5 (fun _ _ => rfl) (Nat.le_trans hd1 hfr) (by rw [hcs]; have e9 : nativeFrameWords "java/lang/System" "arraycopy" 5 = 7 := (by decide); rw [e9]; omega) hd (fun H1 locs1 hP1 _ hS1 => ?_)
  rw [hw] at hP1
  exact k p l e Rm s m args below meth c H1 locs1 cells slots mc ms nn z sk D cy lo S h1 h2 h3 ⟨hR.1, hP1⟩ hS1 hL
theorem aw_abs (q : Nat) {idx : Nat} {x : Int32} (hd : decode μ.2.1 pc = .ok (.invokestatic idx, 3)) (hp : pc + 3 = q) (hlk : Cond.methodLink μ.1.cls idx Lib.Math.abs.name ∈ am_g) (hd1 : 1 ≤ d) (hst : (st.map fun v => v.category).sum ≤ 8) (k : AW μ d b1 b2 g q ls (.int (if 0 ≤ x then x else 0 - x) :: st) M V R Q) : AW μ d b1 b2 g pc ls (.int x :: st) M V R Q := by
  subst hp
  intro p l e Rm s m args below meth c H locs cells slots mc ms n0 z sk D cy lo S h1 h2 h3 hR hS hL
  obtain ⟨hx, hb, hret, hml, hown, hts, -, hnm, hfr, hlc, hU⟩ := id S
  have hcs : ((st.map (am_cv (am_as z sk))).map fun v => v.category).sum = (st.map fun v => v.category).sum := by
    rw [List.map_map]
    congr 1
    exact List.map_congr_left (fun v _ => am_cv_cat _ v)
  exact va_mabs hx hb (hml.trans hL.1.symm) hown (hts _ hlk) (hts _ jm_abs.1) (hts _ jm_abs.2.1) (hts _ jm_abs.2.2) (Nat.le_trans hd1 hfr) (by rw [hcs]; omega) (by omega) (by omega) hd (k p l e Rm s m args below meth c H locs cells slots mc ms n0 z sk D cy lo S h1 h2 h3 hR hS hL)
theorem aw_min (q : Nat) {idx : Nat} {x y : Int32} (hd : decode μ.2.1 pc = .ok (.invokestatic idx, 3)) (hp : pc + 3 = q) (hlk : Cond.methodLink μ.1.cls idx Lib.Math.min.name ∈ am_g) (hd1 : 1 ≤ d) (hst : (st.map fun v => v.category).sum ≤ 8) (k : AW μ d b1 b2 g q ls (.int (if y < x then y else x) :: st) M V R Q) : AW μ d b1 b2 g pc ls (.int y :: .int x :: st) M V R Q := by
  subst hp
  intro p l e Rm s m args below meth c H locs cells slots mc ms n0 z sk D cy lo S h1 h2 h3 hR hS hL
  obtain ⟨hx, hb, hret, hml, hown, hts, -, hnm, hfr, hlc, hU⟩ := id S
  have hcs : ((st.map (am_cv (am_as z sk))).map fun v => v.category).sum = (st.map fun v => v.category).sum := by
    rw [List.map_map]
    congr 1
    exact List.map_congr_left (fun v _ => am_cv_cat _ v)
  exact va_mmin hx hb (hml.trans hL.1.symm) hown (hts _ hlk) (hts _ jm_min.1) (hts _ jm_min.2.1) (hts _ jm_min.2.2) (Nat.le_trans hd1 hfr) (by rw [hcs]; omega) (by omega) (by omega) hd (k p l e Rm s m args below meth c H locs cells slots mc ms n0 z sk D cy lo S h1 h2 h3 hR hS hL)
theorem aw_max (q : Nat) {idx : Nat} {x y : Int32} (hd : decode μ.2.1 pc = .ok (.invokestatic idx, 3)) (hp : pc + 3 = q) (hlk : Cond.methodLink μ.1.cls idx Lib.Math.max.name ∈ am_g) (hd1 : 1 ≤ d) (hst : (st.map fun v => v.category).sum ≤ 8) (k : AW μ d b1 b2 g q ls (.int (if x < y then y else x) :: st) M V R Q) : AW μ d b1 b2 g pc ls (.int y :: .int x :: st) M V R Q := by
  subst hp
  intro p l e Rm s m args below meth c H locs cells slots mc ms n0 z sk D cy lo S h1 h2 h3 hR hS hL
  obtain ⟨hx, hb, hret, hml, hown, hts, -, hnm, hfr, hlc, hU⟩ := id S
  have hcs : ((st.map (am_cv (am_as z sk))).map fun v => v.category).sum = (st.map fun v => v.category).sum := by
    rw [List.map_map]
    congr 1
    exact List.map_congr_left (fun v _ => am_cv_cat _ v)
  exact va_mmax hx hb (hml.trans hL.1.symm) hown (hts _ hlk) (hts _ jm_max.1) (hts _ jm_max.2.1) (hts _ jm_max.2.2) (Nat.le_trans hd1 hfr) (by rw [hcs]; omega) (by omega) (by omega) hd (k p l e Rm s m args below meth c H locs cells slots mc ms n0 z sk D cy lo S h1 h2 h3 hR hS hL)
end AS
end
section
/-! What is made, calls, returns, contracts of the abstract machine. -/
section AT
variable {μ : am_M} {d b1 b2 : Nat} {g : am_G} {pc : Nat} {ls : List (Option Value)} {st : List Value} {M : am_I} {V : am_J} {R : am_O} {Q : am_Po}
theorem am_size {p : Program} {l : Launch} {e : Env} {Rm : Room} {s : State} {m : MethodId} {args : Array Value} {below : List Frame} {meth : Method} {c : Code} {H : Heap} {locs : List Loc} {cells slots n0 z : Nat} {sk : Nat → Nat} {D : va_G} {cy : Nat → ClassId} {Z : State → Prop} {fr : JFrame} (h3 : s.heap.size = z + n0 ∧ cells + n0 = g.1) (hR : am_R z sk D cy g M V R H) (hS : va_S (am_A z) s.heap H locs) (k : H.size = z + g.1 → W p l e Rm s m args below meth c H locs cells slots Z fr) : W p l e Rm s m args below meth c H locs cells slots Z fr := by
  intro T hT X
  refine k ?_ T hT X
  have h1 := X.heapSize
  rw [hT] at h1
  have h2 : z + g.1 ≤ H.size := by
    by_cases h0 : g.1 = 0
    · have := hS.1
      omega
    · have hl : g.1 - 1 < g.1 := by omega
      have h4 := (hR.2 (g.1 - 1) _ (am_get hl)).lt
      have h5 : z + (g.1 - 1) < H.size := h4
      omega
  omega
/-- one more cell -/
def am_gN (g : am_G) (t n : Nat) : am_G := (g.1 + 1, (fun i => if i = g.1 then t else g.2.1 i), (fun i => if i = g.1 then n else g.2.2 i))
theorem am_ws_push {z : Nat} {f : Nat → Nat} {cy : Nat → ClassId} {t n : Nat} {M' : am_I} {V' : am_J} {R' : am_O} (hM : ∀ i, i < g.1 → M' i = M i) (hV : ∀ i, i < g.1 → V' i = V i) (hO : ∀ i, i < g.1 → R' i = R i) : am_ws z f cy (am_gN g t n) M' V' R' = am_ws z f cy g M V R ++ [(z + g.1, am_ce f cy (am_gN g t n) M' V' R' g.1)] := by
  unfold am_ws
  rw [show (am_gN g t n).1 = g.1 + 1 from rfl, List.range_succ, List.map_append]
  congr 1
  apply List.map_congr_left
  intro i hi
  have hlt : i < g.1 := List.mem_range.mp hi
  have hne : i ≠ g.1 := Nat.ne_of_lt hlt
  simp only [am_ce, am_gN, if_neg hne, hM i hlt, hV i hlt, hO i hlt]
theorem am_push {z : Nat} {sk : Nat → Nat} {D : va_G} {cy : Nat → ClassId} {t n : Nat} {M' : am_I} {V' : am_J} {R' : am_O} {H H1 : Heap} (hR : am_R z sk D cy g M V R H) (hsz : H.size = z + g.1) (hlt : g.1 < 1000) (hM : ∀ i, i < g.1 → M' i = M i) (hV : ∀ i, i < g.1 → V' i = V i) (hO : ∀ i, i < g.1 → R' i = R i) (o1 : ∀ q : Nat, q < H.size → H1[q]? = H[q]?) (hn : va_at D vwCl (z + g.1, am_ce (am_as z sk) cy (am_gN g t n) M' V' R' g.1) H1) : am_R z sk D cy (am_gN g t n) M' V' R' H1 := by
  refine ⟨hlt, ?_⟩
  rw [am_ws_push hM hV hO]
  refine (hR.2.kept (fun k q hk => ?_)).app (fun k q hk => ?_)
  · exact o1 q.1 ((hR.2 k q hk).lt)
  · have hz : k < 1 := (List.getElem?_eq_some_iff.mp hk).1
    rw [show k = 0 by omega] at hk
    cases hk
    exact hn
theorem am_S_push {z : Nat} {s : State} {H H1 : Heap} {locs : List Loc} (hS : va_S (am_A z) s.heap H locs) (z1 : H1.size = H.size + 1) (o1 : ∀ q : Nat, q < H.size → H1[q]? = H[q]?) : va_S (am_A z) s.heap H1 locs :=
  ⟨Nat.le_trans hS.1 (by omega), fun x g1 g2 => (o1 x (Nat.lt_of_lt_of_le g1 hS.1)).trans (hS.2.1 x g1 g2), hS.2.2⟩
theorem am_tyk : ∀ c0, c0 < 9 → ∀ k, k < am_N c0 → am_ty c0 k = .int ∨ am_ty c0 k = .boolean ∨ am_rf c0 k = true := am_lt9 (by decide +kernel) (by decide +kernel) (by decide +kernel) (by decide +kernel) (by decide +kernel) (by decide +kernel) (by decide +kernel) (by decide +kernel) (by decide +kernel)
theorem am_dflt {c0 k : Nat} (hk : k < am_N c0) (hc9 : c0 < 9) (f : Nat → Nat) : defaultValue (am_ty c0 k) = vp_V (am_fs f c0 (fun _ => 0) (fun _ => none)) k := by
  unfold vp_V
  rw [List.getD_eq_getElem?_getD, am_fs_get hk]
  have h : am_ty c0 k = .int ∨ am_ty c0 k = .boolean ∨ am_rf c0 k = true := am_tyk c0 hc9 k hk
  rcases h with h | h | h
  · simp [am_rf, h, defaultValue]
  · simp [am_rf, h, defaultValue]
  · simp only [h, if_true, Option.map_none, va_rf]
    unfold am_rf at h
    cases hty : am_ty c0 k <;> rw [hty] at h <;> first | rfl | cases h
theorem aw_new (q : Nat) {idx c0 : Nat} (hd : decode μ.2.1 pc = .ok (.new idx, 3)) (hp : pc + 3 = q) (hw : am_nw μ.1.cls idx c0) (hlt : g.1 < 1000) (k : AW μ d b1 b2 (am_gN g (c0 + 4) 0) q ls (.ref g.1 :: st) (am_row M g.1 (fun _ => 0)) V (am_row R g.1 (fun _ => none)) Q) : AW μ d (b1 + 1) (b2 + am_N c0) g pc ls st M V R Q := by
  subst hp
  intro p l e Rm s m args below meth c H locs cells slots mc ms n0 z sk D cy lo S h1 h2 h3 hR hS hL
  obtain ⟨hx, hb, hret, hml, hown, hts, hlk, hnm, hfr, hlc, hU⟩ := id S
  obtain ⟨hc9, w1, w2, w3⟩ := hw
  refine am_size h3 hR hS (fun hsz => ?_)
  have hKn := hU.1.1 c0 _ (am_cl c0 hc9)
  refine W.newcK hx hb hown (hts _ w1) (hts _ w2) (hts _ w3) rfl hd (by omega) (by omega) hKn.2.1 hsz fun H1 kC hkC e1 z1 o1 => ?_
  have e9 : am_as z sk g.1 = z + g.1 := am_as_lt hlt
  have hk := k p l e Rm s m args below meth c H1 locs (cells + 1) (slots + am_N c0) mc ms n0 z sk D cy lo S ⟨by omega, by omega⟩ h2 ⟨h3.1, by show cells + 1 + n0 = g.1 + 1; omega⟩ (am_push hR hsz hlt (fun i hi => by simp [am_row, Nat.ne_of_lt hi]) (fun i _ => rfl) (fun i hi => by simp [am_row, Nat.ne_of_lt hi]) (by rw [hsz]; exact o1) (by
    rw [am_ce_ob (c := c0) (by simp [am_gN])]
    refine ⟨_, am_cl c0 hc9, (u_born (am_ty c0) hts (am_in c0 hc9) hKn hkC e1 (am_tyok c0 hc9)).to (fun j hj => ?_)⟩
    simp only [am_row, if_true]
    exact am_dflt hj hc9 _)) (am_S_push hS (by omega) (by rw [hsz]; exact o1)) hL
  rw [show ((Value.ref g.1 :: st).map (am_cv (am_as z sk))) = .ref (z + g.1) :: st.map (am_cv (am_as z sk)) by rw [← e9]; rfl] at hk
  exact hk

theorem aw_newI (q : Nat) {n : Int32} {N' : Nat} (hd : decode μ.2.1 pc = .ok (.newarray .int, 2)) (hp : pc + 2 = q) (hn : ¬ n < 0) (hN : n.toNatClampNeg = N') (hN9 : N' ≤ 1000) (hlt : g.1 < 1000) (k : AW μ d b1 b2 (am_gN g 0 N') q ls (.ref g.1 :: st) (am_row M g.1 (fun _ => 0)) (V) R Q) : AW μ d (b1 + 1) (b2 + N') g pc ls (.int n :: st) M V R Q := by
  subst hp
  intro p l e Rm s m args below meth c H locs cells slots mc ms n0 z sk D cy lo S h1 h2 h3 hR hS hL
  obtain ⟨hx, hb, hret, hml, hown, hts, hlk, hnm, hfr, hlc, hU⟩ := id S
  refine am_size h3 hR hS (fun hsz => ?_)
  refine va_newaK hx hb (atype := .int) (hts _ jm_aint) rfl hd rfl hn hN (by show N' * 4 ≤ _; omega) (by omega) (by omega) hsz fun H1 cA e1 z1 o1 hAr hNm => ?_
  have e9 : am_as z sk g.1 = z + g.1 := am_as_lt hlt
  have hcy : cA = cy 0 := by
    have h8 := (hU.1.2 0 (cy 0, .int) rfl).2
    exact Option.some.inj (hNm.symm.trans h8)
  subst hcy
  have hk := k p l e Rm s m args below meth c H1 locs (cells + 1) (slots + N') mc ms n0 z sk D cy lo S ⟨by omega, by omega⟩ h2 ⟨h3.1, by show cells + 1 + n0 = g.1 + 1; omega⟩ (am_push hR hsz hlt (fun i hi => by simp [am_row, Nat.ne_of_lt hi]) (fun i hi => by simp [am_row, Nat.ne_of_lt hi]) (fun i hi => by simp [am_row, Nat.ne_of_lt hi]) (by rw [hsz]; exact o1) (by
    rw [am_ce_0 (by simp [am_gN])]
    show H1[z + g.1]? = some (vp_cell _ _)
    rw [e1]
    simp only [am_row, am_gN, if_true]
    rfl)) (am_S_push hS (by omega) (by rw [hsz]; exact o1)) hL
  rw [show ((Value.ref g.1 :: st).map (am_cv (am_as z sk))) = .ref (z + g.1) :: st.map (am_cv (am_as z sk)) by rw [← e9]; rfl] at hk
  exact hk

theorem aw_newZ (q : Nat) {n : Int32} {N' : Nat} (hd : decode μ.2.1 pc = .ok (.newarray .boolean, 2)) (hp : pc + 2 = q) (hn : ¬ n < 0) (hN : n.toNatClampNeg = N') (hN9 : N' ≤ 1000) (hlt : g.1 < 1000) (k : AW μ d b1 b2 (am_gN g 2 N') q ls (.ref g.1 :: st) (am_row M g.1 (fun _ => 0)) (V) R Q) : AW μ d (b1 + 1) (b2 + N') g pc ls (.int n :: st) M V R Q := by
  subst hp
  intro p l e Rm s m args below meth c H locs cells slots mc ms n0 z sk D cy lo S h1 h2 h3 hR hS hL
  obtain ⟨hx, hb, hret, hml, hown, hts, hlk, hnm, hfr, hlc, hU⟩ := id S
  refine am_size h3 hR hS (fun hsz => ?_)
  refine va_newaK hx hb (atype := .boolean) (hts _ jm_aboolean) rfl hd rfl hn hN (by show N' * 1 ≤ _; omega) (by omega) (by omega) hsz fun H1 cA e1 z1 o1 hAr hNm => ?_
  have e9 : am_as z sk g.1 = z + g.1 := am_as_lt hlt
  have hcy : cA = cy 2 := by
    have h8 := (hU.1.2 2 (cy 2, .boolean) rfl).2
    exact Option.some.inj (hNm.symm.trans h8)
  subst hcy
  have hk := k p l e Rm s m args below meth c H1 locs (cells + 1) (slots + N') mc ms n0 z sk D cy lo S ⟨by omega, by omega⟩ h2 ⟨h3.1, by show cells + 1 + n0 = g.1 + 1; omega⟩ (am_push hR hsz hlt (fun i hi => by simp [am_row, Nat.ne_of_lt hi]) (fun i hi => by simp [am_row, Nat.ne_of_lt hi]) (fun i hi => by simp [am_row, Nat.ne_of_lt hi]) (by rw [hsz]; exact o1) (by
    rw [am_ce_2 (by simp [am_gN])]
    show H1[z + g.1]? = some (vp_cell _ _)
    rw [e1]
    simp only [am_row, am_gN, if_true]
    rfl)) (am_S_push hS (by omega) (by rw [hsz]; exact o1)) hL
  rw [show ((Value.ref g.1 :: st).map (am_cv (am_as z sk))) = .ref (z + g.1) :: st.map (am_cv (am_as z sk)) by rw [← e9]; rfl] at hk
  exact hk

theorem aw_newJ (q : Nat) {n : Int32} {N' : Nat} (hd : decode μ.2.1 pc = .ok (.newarray .long, 2)) (hp : pc + 2 = q) (hn : ¬ n < 0) (hN : n.toNatClampNeg = N') (hN9 : N' ≤ 1000) (hlt : g.1 < 1000) (k : AW μ d b1 b2 (am_gN g 1 N') q ls (.ref g.1 :: st) (M) (am_row V g.1 (fun _ => 0)) R Q) : AW μ d (b1 + 1) (b2 + N') g pc ls (.int n :: st) M V R Q := by
  subst hp
  intro p l e Rm s m args below meth c H locs cells slots mc ms n0 z sk D cy lo S h1 h2 h3 hR hS hL
  obtain ⟨hx, hb, hret, hml, hown, hts, hlk, hnm, hfr, hlc, hU⟩ := id S
  refine am_size h3 hR hS (fun hsz => ?_)
  refine va_newaK hx hb (atype := .long) (hts _ jm_along) rfl hd rfl hn hN (by show N' * 8 ≤ _; omega) (by omega) (by omega) hsz fun H1 cA e1 z1 o1 hAr hNm => ?_
  have e9 : am_as z sk g.1 = z + g.1 := am_as_lt hlt
  have hcy : cA = cy 1 := by
    have h8 := (hU.1.2 1 (cy 1, .long) rfl).2
    exact Option.some.inj (hNm.symm.trans h8)
  subst hcy
  have hk := k p l e Rm s m args below meth c H1 locs (cells + 1) (slots + N') mc ms n0 z sk D cy lo S ⟨by omega, by omega⟩ h2 ⟨h3.1, by show cells + 1 + n0 = g.1 + 1; omega⟩ (am_push hR hsz hlt (fun i hi => by simp [am_row, Nat.ne_of_lt hi]) (fun i hi => by simp [am_row, Nat.ne_of_lt hi]) (fun i hi => by simp [am_row, Nat.ne_of_lt hi]) (by rw [hsz]; exact o1) (by
    rw [am_ce_1 (by simp [am_gN])]
    show H1[z + g.1]? = some (vp_cell _ _)
    rw [e1]
    simp only [am_row, am_gN, if_true]
    rfl)) (am_S_push hS (by omega) (by rw [hsz]; exact o1)) hL
  rw [show ((Value.ref g.1 :: st).map (am_cv (am_as z sk))) = .ref (z + g.1) :: st.map (am_cv (am_as z sk)) by rw [← e9]; rfl] at hk
  exact hk

theorem aw_newA (q : Nat) {idx : Nat} {n : Int32} {N' : Nat} (hd : decode μ.2.1 pc = .ok (.anewarray idx, 3)) (hp : pc + 3 = q) (hw : am_nw μ.1.cls idx 6) (hn : ¬ n < 0) (hN : n.toNatClampNeg = N') (hN9 : N' ≤ 1000) (hlt : g.1 < 1000) (k : AW μ d b1 b2 (am_gN g 3 N') q ls (.ref g.1 :: st) M V (am_row R g.1 (fun _ => none)) Q) : AW μ d (b1 + 1) (b2 + N') g pc ls (.int n :: st) M V R Q := by
  subst hp
  intro p l e Rm s m args below meth c H locs cells slots mc ms n0 z sk D cy lo S h1 h2 h3 hR hS hL
  obtain ⟨hx, hb, hret, hml, hown, hts, hlk, hnm, hfr, hlc, hU⟩ := id S
  refine am_size h3 hR hS (fun hsz => ?_)
  subst hN
  refine W.anew (C := RX6) hx hb hown (hts _ hw.2.1) (va_AO.use hU.2.2.2) rfl hd rfl hn (by omega) (by omega) (by omega) fun cA kA comp f1 f2 f3 f4 => ?_
  generalize hH1 : H.push ({ cls := cA, slots := Array.replicate n.toNatClampNeg .null, vm := .none } : Cell) = H1
  have z1 : H1.size = H.size + 1 := by rw [← hH1, Array.size_push]
  have e1 : H1[H.size]? = some (arrV cA n.toNatClampNeg (fun _ => .null)) := by rw [← hH1, Array.getElem?_push_size, ← arrV_new]
  have o1 : ∀ q : Nat, q < H.size → H1[q]? = H[q]? := fun q hq => by rw [← hH1, Array.getElem?_push, if_neg (Nat.ne_of_lt hq)]
  have e9 : am_as z sk g.1 = z + g.1 := am_as_lt hlt
  have hcy : cA = cy 3 := by
    obtain ⟨kA', comp', g1, g2, g3, g4⟩ := (hU.1.2 3 (cy 3, .object RX6) rfl).2
    exact Option.some.inj (f1.symm.trans g4)
  subst hcy
  have hk := k p l e Rm s m args below meth c H1 locs (cells + 1) (slots + n.toNatClampNeg) mc ms n0 z sk D cy lo S ⟨by omega, by omega⟩ h2 ⟨h3.1, by show cells + 1 + n0 = g.1 + 1; omega⟩ (am_push hR hsz hlt (fun i hi => rfl) (fun i hi => rfl) (fun i hi => by simp [am_row, Nat.ne_of_lt hi]) o1 (by
    rw [am_ce_3 (by simp [am_gN])]
    show H1[z + g.1]? = some (vp_cell _ _)
    rw [← hsz, e1]
    simp only [am_row, am_gN, if_true]
    rfl)) (am_S_push hS z1 o1) hL
  rw [show ((Value.ref g.1 :: st).map (am_cv (am_as z sk))) = .ref H.size :: st.map (am_cv (am_as z sk)) by rw [hsz, ← e9]; rfl] at hk
  exact hk
/-- Object's constructor -/
theorem aw_obj (q : Nat) {idx r : Nat} (hd : decode μ.2.1 pc = .ok (.invokespecial idx, 3)) (hp : pc + 3 = q) (hlk : Cond.methodLink μ.1.cls idx objectInit ∈ am_g) (hd1 : 1 ≤ d) (hst : (st.map fun v => v.category).sum ≤ 8) (k : AW μ d b1 b2 g q ls st M V R Q) : AW μ d b1 b2 g pc ls (.ref r :: st) M V R Q := by
  subst hp
  intro p l e Rm s m args below meth c H locs cells slots mc ms n0 z sk D cy lo S h1 h2 h3 hR hS hL
  obtain ⟨hx, hb, hret, hml, hown, hts, -, hnm, hfr, hlc, hU⟩ := id S
  have hcs : ((st.map (am_cv (am_as z sk))).map fun v => v.category).sum = (st.map fun v => v.category).sum := by
    rw [List.map_map]
    congr 1
    exact List.map_congr_left (fun v _ => am_cv_cat _ v)
  exact W.objInit hx hb hown (hts _ hlk) (hts _ jm_obj.1) (hts _ jm_obj.2) rfl (by rw [hml]; exact hL.1) rfl hd (Nat.le_trans hd1 hfr) (by show 2 * 0 + _ + 12 ≤ _; rw [hcs]; omega) (k p l e Rm s m args below meth c H locs cells slots mc ms n0 z sk D cy lo S h1 h2 h3 hR hS hL)
/-- returns -/
def am_nr (μ : am_M) (x : Int32) : Prop := ∃ ty, μ.2.2.2 = some ty ∧ narrow ty (.int x) = .int x
theorem aw_iret {x : Int32} (hd : decode μ.2.1 pc = .ok (.ireturn, 1)) (hn : am_nr μ x) (hQ : Q (some (.int x)) g M V R) : AW μ d 0 b2 g pc ls [.int x] M V R Q := by
  intro p l e Rm s m args below meth c H locs cells slots mc ms n0 z sk D cy lo S h1 h2 h3 hR hS hL
  obtain ⟨hx, hb, hret, hml, hown, hts, hlk, hnm, hfr, hlc, hU⟩ := id S
  obtain ⟨ty, hty, hnr⟩ := hn
  refine W.widen (k := mc) (n := ms) (by omega) (by omega) ?_
  exact W.zret hx hb (hret.trans hty) hnr (fun t ht hW => ⟨⟨some (.int x), g, M, V, R, rfl, by omega, hQ, by rw [ht]; exact hR⟩, hS.F ht⟩) hS.2.2 hd hlk
theorem aw_vret (hd : decode μ.2.1 pc = .ok (.return_, 1)) (hn : μ.2.2.2 = none) (hQ : Q none g M V R) : AW μ d 0 b2 g pc ls [] M V R Q := by
  intro p l e Rm s m args below meth c H locs cells slots mc ms n0 z sk D cy lo S h1 h2 h3 hR hS hL
  obtain ⟨hx, hb, hret, hml, hown, hts, hlk, hnm, hfr, hlc, hU⟩ := id S
  refine W.widen (k := mc) (n := ms) (by omega) (by omega) ?_
  exact W.vret hx hb (hret.trans hn) (fun t ht hW => ⟨⟨none, g, M, V, R, rfl, by omega, hQ, by rw [ht]; exact hR⟩, hS.F ht⟩) hS.2.2 hd hlk
/-- behind a call -/
theorem am_after {p : Program} {l : Launch} {e : Env} {Rm : Room} {s : State} {m : MethodId} {args : Array Value} {below : List Frame} {meth : Method} {c : Code} {H : Heap} {locs : List Loc} {cells slots mc ms n1 z : Nat} {sk : Nat → Nat} {D : va_G} {cy : Nat → ClassId} {Z : State → Prop} {lo : Array Slot} {st0 rest : List Value} {a : Array Value} {Q' : am_Po}
    (hr : va_Run p l e Rm s m args below meth c H locs cells slots mc ms (F0 m pc lo st0) rest (am_Q z sk D cy n1 Q' a) (am_A z)) (hS : va_S (am_A z) s.heap H locs)
    (kk : ∀ (v : Option Value) (g' : am_G) (M' : am_I) (V' : am_J) (R' : am_O) (H1 : Heap) (locs1 : List Loc), g'.1 = n1 → Q' v g' M' V' R' → am_R z sk D cy g' M' V' R' H1 → va_S (am_A z) s.heap H1 locs1 → W p l e Rm s m args below meth c H1 locs1 (cells + mc) (slots + ms) Z (F0 m (pc + 3) lo ((v.map (am_cv (am_as z sk))).toList ++ rest))) : W p l e Rm s m args below meth c H locs cells slots Z (F0 m pc lo st0) := by
  intro T hT X
  obtain ⟨v, st₀, t, T', L, h0, X', hL, e1, e2, ⟨⟨w, g', M', V', R', hv, hg, hq, hR'⟩, hz, hk⟩, sp⟩ := hr T hT X
  cases hv
  rw [h0] at hz hk
  obtain ⟨t2, a1, b1⟩ := kk w g' M' V' R' T'.heap (locs ++ L) hg hq (by rw [e1]; exact hR')
    ⟨Nat.le_trans hS.1 (by rw [e1]; exact hz), fun q g1 g2 => by rw [e1, hk q (Nat.lt_of_lt_of_le g1 hS.1) g2]; exact hS.2.1 q g1 g2, fun q hq => by
      rcases List.mem_append.mp hq with h | h
      · exact hS.2.2 q h
      · exact hL q h⟩ T' rfl X'
  exact ⟨t2, sp t2 a1, b1⟩
theorem am_blind {z : Nat} {sk : Nat → Nat} {D : va_G} {cy : Nat → ClassId} {av : List Value} : FrameBlind (am_P z sk D cy av g M V R) := fun a U gf mk q => ⟨q.1, q.2.1.calling, q.2.2.1, q.2.2.2⟩
theorem am_good {μ' : am_M} (h : Cond.code μ'.1 μ'.2.1 μ'.2.2.1 μ'.2.2.2 ∈ am_g) : GoodIn am_g (am_w μ') := by
  intro w hw
  rcases List.mem_cons.mp hw with rfl | hw
  · exact ⟨h, good_of_word (am_ga h).2⟩
  · exact ⟨hw, good_of_word (am_ga hw).2⟩
theorem am_cat {f : Nat → Nat} (st : List Value) : ((st.map (am_cv f)).map fun v => v.category).sum = (st.map fun v => v.category).sum := by
  rw [List.map_map]
  congr 1
  exact List.map_congr_left (fun v _ => am_cv_cat _ v)
theorem am_otl {f : Nat → Nat} (v : Option Value) (rest : List Value) : (v.map (am_cv f)).toList ++ rest.map (am_cv f) = (v.toList ++ rest).map (am_cv f) := by cases v <;> rfl

theorem aw_callV (q : Nat) {μ' : am_M} {idx n d' mc' ms' : Nat} {c0 : Nat} {r : Nat} {As rest : List Value} {Q' : am_Po} (hd : decode μ.2.1 pc = .ok (.invokevirtual idx, 3)) (hp : pc + 3 = q) (hlk : am_lk μ.1.cls idx μ'.1) (hm : am_mV μ' n c0) (ho : am_ob g r c0) (hC9 : Ct μ' d' mc' ms' (.ref r :: As) g M V R Q') (hn : As.length = n) (hst : st = As.reverse ++ .ref r :: rest) (hd9 : d' + 1 ≤ d) (hct : (rest.map fun v => v.category).sum ≤ 8)
    (k : ∀ (v : Option Value) (g' : am_G) (M' : am_I) (V' : am_J) (R' : am_O), g'.1 = g.1 + mc' → Q' v g' M' V' R' → AW μ d b1 b2 g' q ls (v.toList ++ rest) M' V' R' Q) : AW μ d (b1 + mc') (b2 + ms') g pc ls st M V R Q := by
  subst hp
  intro p l e Rm s m args below meth c H locs cells slots mc ms n0 z sk D cy lo S h1 h2 h3 hR hS hL
  obtain ⟨hx, hb, hret, hml, hown, hts, hlks, hnm, hfr, hlc, hU⟩ := id S
  obtain ⟨⟨hpl, hcw, hin9, hdd, hml9⟩, hc9, hC, hinst, hsel⟩ := hm
  refine am_size h3 hR hS (fun hsz => ?_)
  have hpre : ∀ U : State, U.heap = H → s.WarmedH U.vm → am_P z sk D cy (.ref r :: As) g M V R (((.ref r :: As)).map (am_cv (am_as z sk))).toArray U := fun U hUh hW => ⟨rfl, hU.warm hW (by rw [hUh]; exact hS), by rw [hUh]; exact hsz, by rw [hUh]; exact hR⟩
  have hg9 := am_good hcw
  have hR9 : (am_rm d' mc' ms').frames + 1 ≤ Rm.frames ∧ 8 + (μ'.2.2.1 + 11) + (am_rm d' mc' ms').locals ≤ Rm.locals := ⟨Nat.le_trans hd9 hfr, by show 8 + (μ'.2.2.1 + 11) + 64 * d' ≤ Rm.locals; omega⟩
  have e9 : am_as z sk r = z + r := am_as_lt (Nat.lt_of_lt_of_le ho.1 hR.1)
  have hrec := va_recv hU.1 hR.2 (am_cl c0 hc9) (by have he := am_get (z := z) (f := am_as z sk) (cy := cy) (M := M) (V := V) (R := R) ho.1; rw [am_ce_ob ho.2] at he; exact he)
  have hrec2 : ∃ cell : Cell, H[am_as z sk r]? = some cell ∧ cell.vm.isStatics = false ∧ s.vm.findClass (am_C c0) = some cell.cls := by rw [e9]; exact hrec
  have hsel2 : (Cond.selects (am_C c0) μ'.1 μ'.1).before args s = true := by rw [← hC]; exact hts _ hsel
  rcases hlk with hl | ⟨host, hl⟩
  · refine am_after (va_runV (C := am_C c0) (b := am_as z sk r) (As := As.map (am_cv (am_as z sk))) (rest := rest.map (am_cv (am_as z sk))) ⟨hx, hb, hml, hown, hts⟩ (hC9 l z sk D cy) ⟨callB_of n hts hg9 rfl rfl rfl (hts _ hin9) (hts _ hl) hdd hR9, hts _ hinst, hsel2⟩ ⟨am_blind, hrec2, hpre⟩ rfl (by rw [List.length_map]; exact hn) hL.1 (by rw [hst]; simp only [List.map_append, List.map_reverse, List.map_cons]; rfl) (by show 2 * 0 + _ ≤ 8; rw [am_cat]; omega) hd ⟨by omega, by omega⟩) hS (fun v g' M' V' R' H1 locs1 hg hq hR1 hS1 => ?_) <;>
    · rw [am_otl]
      exact k v g' M' V' R' hg hq p l e Rm s m args below meth c H1 locs1 (cells + mc') (slots + ms') mc ms n0 z sk D cy lo S ⟨by omega, by omega⟩ h2 ⟨h3.1, by omega⟩ hR1 hS1 hL
  · refine am_after (va_runVN (C := am_C c0) (b := am_as z sk r) (As := As.map (am_cv (am_as z sk))) (rest := rest.map (am_cv (am_as z sk))) ⟨hx, hb, hml, hown, hts⟩ (hC9 l z sk D cy) ⟨va_cnB n hts hg9 rfl rfl rfl (hU.2.1 _ hl) (hts _ hin9) hdd hR9, hts _ hinst, hsel2⟩ ⟨am_blind, hrec2, hpre⟩ rfl (by rw [List.length_map]; exact hn) hL.1 (by rw [hst]; simp only [List.map_append, List.map_reverse, List.map_cons]; rfl) (by show 2 * 0 + _ ≤ 8; rw [am_cat]; omega) hd ⟨by omega, by omega⟩) hS (fun v g' M' V' R' H1 locs1 hg hq hR1 hS1 => ?_) <;>
    · rw [am_otl]
      exact k v g' M' V' R' hg hq p l e Rm s m args below meth c H1 locs1 (cells + mc') (slots + ms') mc ms n0 z sk D cy lo S ⟨by omega, by omega⟩ h2 ⟨h3.1, by omega⟩ hR1 hS1 hL
theorem aw_callS (q : Nat) {μ' : am_M} {idx n d' mc' ms' : Nat}   {As rest : List Value} {Q' : am_Po} (hd : decode μ.2.1 pc = .ok (.invokestatic idx, 3)) (hp : pc + 3 = q) (hlk : am_lk μ.1.cls idx μ'.1) (hm : am_mS μ' n) (hC9 : Ct μ' d' mc' ms' As g M V R Q') (hn : As.length = n) (hst : st = As.reverse ++ rest) (hd9 : d' + 1 ≤ d) (hct : (rest.map fun v => v.category).sum ≤ 8)
    (k : ∀ (v : Option Value) (g' : am_G) (M' : am_I) (V' : am_J) (R' : am_O), g'.1 = g.1 + mc' → Q' v g' M' V' R' → AW μ d b1 b2 g' q ls (v.toList ++ rest) M' V' R' Q) : AW μ d (b1 + mc') (b2 + ms') g pc ls st M V R Q := by
  subst hp
  intro p l e Rm s m args below meth c H locs cells slots mc ms n0 z sk D cy lo S h1 h2 h3 hR hS hL
  obtain ⟨hx, hb, hret, hml, hown, hts, hlks, hnm, hfr, hlc, hU⟩ := id S
  obtain ⟨⟨hpl, hcw, hin9, hdd, hml9⟩, hstat⟩ := hm
  refine am_size h3 hR hS (fun hsz => ?_)
  have hpre : ∀ U : State, U.heap = H → s.WarmedH U.vm → am_P z sk D cy As g M V R ((As).map (am_cv (am_as z sk))).toArray U := fun U hUh hW => ⟨rfl, hU.warm hW (by rw [hUh]; exact hS), by rw [hUh]; exact hsz, by rw [hUh]; exact hR⟩
  have hg9 := am_good hcw
  have hR9 : (am_rm d' mc' ms').frames + 1 ≤ Rm.frames ∧ 8 + (μ'.2.2.1 + 11) + (am_rm d' mc' ms').locals ≤ Rm.locals := ⟨Nat.le_trans hd9 hfr, by show 8 + (μ'.2.2.1 + 11) + 64 * d' ≤ Rm.locals; omega⟩
  rcases hlk with hl | ⟨host, hl⟩
  · refine am_after (va_runS (As := As.map (am_cv (am_as z sk))) (rest := rest.map (am_cv (am_as z sk))) ⟨hx, hb, hml, hown, hts⟩ (hC9 l z sk D cy) ⟨callB_of n hts hg9 rfl rfl rfl (hts _ hin9) (hts _ hl) hdd hR9, hts _ hstat⟩ ⟨am_blind, hpre⟩ rfl (by rw [List.length_map]; exact hn) hL.1 (by rw [hst]; simp only [List.map_append, List.map_reverse]) (by show 2 * 0 + _ ≤ 8; rw [am_cat]; omega) hd ⟨by omega, by omega⟩) hS (fun v g' M' V' R' H1 locs1 hg hq hR1 hS1 => ?_) <;>
    · rw [am_otl]
      exact k v g' M' V' R' hg hq p l e Rm s m args below meth c H1 locs1 (cells + mc') (slots + ms') mc ms n0 z sk D cy lo S ⟨by omega, by omega⟩ h2 ⟨h3.1, by omega⟩ hR1 hS1 hL
  · refine am_after (va_runSN (As := As.map (am_cv (am_as z sk))) (rest := rest.map (am_cv (am_as z sk))) ⟨hx, hb, hml, hown, hts⟩ (hC9 l z sk D cy) ⟨va_cnB n hts hg9 rfl rfl rfl (hU.2.1 _ hl) (hts _ hin9) hdd hR9, hts _ hstat, trivial⟩ ⟨am_blind, hpre⟩ rfl (by rw [List.length_map]; exact hn) hL.1 (by rw [hst]; simp only [List.map_append, List.map_reverse]) (by show 2 * 0 + _ ≤ 8; rw [am_cat]; omega) hd ⟨by omega, by omega⟩) hS (fun v g' M' V' R' H1 locs1 hg hq hR1 hS1 => ?_) <;>
    · rw [am_otl]
      exact k v g' M' V' R' hg hq p l e Rm s m args below meth c H1 locs1 (cells + mc') (slots + ms') mc ms n0 z sk D cy lo S ⟨by omega, by omega⟩ h2 ⟨h3.1, by omega⟩ hR1 hS1 hL
theorem aw_callI (q : Nat) {μ' : am_M} {idx n d' mc' ms' : Nat}  {r : Nat} {As rest : List Value} {Q' : am_Po} (hd : decode μ.2.1 pc = .ok (.invokespecial idx, 3)) (hp : pc + 3 = q) (hlk : am_lk μ.1.cls idx μ'.1) (hm : am_mI μ' n) (ho : r < g.1) (hC9 : Ct μ' d' mc' ms' (.ref r :: As) g M V R Q') (hn : As.length = n) (hst : st = As.reverse ++ .ref r :: rest) (hd9 : d' + 1 ≤ d) (hct : (rest.map fun v => v.category).sum ≤ 8)
    (k : ∀ (v : Option Value) (g' : am_G) (M' : am_I) (V' : am_J) (R' : am_O), g'.1 = g.1 + mc' → Q' v g' M' V' R' → AW μ d b1 b2 g' q ls (v.toList ++ rest) M' V' R' Q) : AW μ d (b1 + mc') (b2 + ms') g pc ls st M V R Q := by
  subst hp
  intro p l e Rm s m args below meth c H locs cells slots mc ms n0 z sk D cy lo S h1 h2 h3 hR hS hL
  obtain ⟨hx, hb, hret, hml, hown, hts, hlks, hnm, hfr, hlc, hU⟩ := id S
  obtain ⟨⟨hpl, hcw, hin9, hdd, hml9⟩, hnI, hrI, hinst⟩ := hm
  refine am_size h3 hR hS (fun hsz => ?_)
  have hpre : ∀ U : State, U.heap = H → s.WarmedH U.vm → am_P z sk D cy (.ref r :: As) g M V R (((.ref r :: As)).map (am_cv (am_as z sk))).toArray U := fun U hUh hW => ⟨rfl, hU.warm hW (by rw [hUh]; exact hS), by rw [hUh]; exact hsz, by rw [hUh]; exact hR⟩
  have hg9 := am_good hcw
  have hR9 : (am_rm d' mc' ms').frames + 1 ≤ Rm.frames ∧ 8 + (μ'.2.2.1 + 11) + (am_rm d' mc' ms').locals ≤ Rm.locals := ⟨Nat.le_trans hd9 hfr, by show 8 + (μ'.2.2.1 + 11) + 64 * d' ≤ Rm.locals; omega⟩
  have e9 : am_as z sk r = z + r := am_as_lt (Nat.lt_of_lt_of_le ho hR.1)
  have hw9 : am_w μ' = Cond.code μ'.1 μ'.2.1 μ'.2.2.1 none :: am_g := by rw [← hrI]; rfl
  rcases hlk with hl | ⟨host, hl⟩
  · refine am_after (va_runI (b := am_as z sk r) (As := As.map (am_cv (am_as z sk))) (rest := rest.map (am_cv (am_as z sk))) ⟨hx, hb, hml, hown, hts⟩ (hC9 l z sk D cy) ⟨callB_of n hts hg9 hw9 rfl rfl (hts _ hin9) (hts _ hl) hdd hR9, hnI, hts _ hinst⟩ ⟨am_blind, hpre⟩ rfl (by rw [List.length_map]; exact hn) hL.1 (by rw [hst]; simp only [List.map_append, List.map_reverse, List.map_cons]; rfl) (by show 2 * 0 + _ ≤ 8; rw [am_cat]; omega) hd ⟨by omega, by omega⟩) hS (fun v g' M' V' R' H1 locs1 hg hq hR1 hS1 => ?_) <;>
    · rw [am_otl]
      exact k v g' M' V' R' hg hq p l e Rm s m args below meth c H1 locs1 (cells + mc') (slots + ms') mc ms n0 z sk D cy lo S ⟨by omega, by omega⟩ h2 ⟨h3.1, by omega⟩ hR1 hS1 hL
  · refine am_after (va_runIN (b := am_as z sk r) (As := As.map (am_cv (am_as z sk))) (rest := rest.map (am_cv (am_as z sk))) ⟨hx, hb, hml, hown, hts⟩ (hC9 l z sk D cy) ⟨va_cnB n hts hg9 hw9 rfl rfl (hU.2.1 _ hl) (hts _ hin9) hdd hR9, hnI, hts _ hinst⟩ ⟨am_blind, hpre⟩ rfl (by rw [List.length_map]; exact hn) hL.1 (by rw [hst]; simp only [List.map_append, List.map_reverse, List.map_cons]; rfl) (by show 2 * 0 + _ ≤ 8; rw [am_cat]; omega) hd ⟨by omega, by omega⟩) hS (fun v g' M' V' R' H1 locs1 hg hq hR1 hS1 => ?_) <;>
    · rw [am_otl]
      exact k v g' M' V' R' hg hq p l e Rm s m args below meth c H1 locs1 (cells + mc') (slots + ms') mc ms n0 z sk D cy lo S ⟨by omega, by omega⟩ h2 ⟨h3.1, by omega⟩ hR1 hS1 hL
/-- a contract out of a walk -/
def am_ent (n : Nat) (av : List Value) (ls : List (Option Value)) : Prop := ls.length ≤ n ∧ (lg_sl av).length ≤ n ∧ ∀ (i : Nat) (v : Value), ls[i]? = some (some v) → (i, v) ∈ lv_args 0 av
theorem Ct.of {mc ms : Nat} {av : List Value} (hpl : plainName μ.1.cls = true) (hw : Cond.code μ.1 μ.2.1 μ.2.2.1 μ.2.2.2 ∈ am_g) (ls : List (Option Value)) (hl : ∀ f : Nat → Nat, am_ent μ.2.2.1 (av.map (am_cv f)) (ls.map (fun o => o.map (am_cv f)))) (k : AW μ d mc ms g 0 ls [] M V R Q) : Ct μ d mc ms av g M V R Q := by
  intro l z sk D cy
  refine Met.ofW (cc := μ.2.1) (maxL := μ.2.2.1) (ret := μ.2.2.2) hpl rfl ?_
  intro p e s m args below meth c s₁ B hml hv
  obtain ⟨rfl, hU, hsz, hR⟩ := hv
  have hts := atoms_spec (ws := am_w μ) B.pre
  have hown : s.vm.findClass μ.1.cls = some m.cls := findClass_of_methodNamed B.named
  obtain ⟨e1, e2, e3⟩ := hl (am_as z sk)
  have hl9 := lv_entry (av.map (am_cv (am_as z sk))) (n := μ.2.2.1) e2
  rw [lg_entry_eq]
  refine k p l e _ s m _ below meth c s.heap [] 0 0 mc ms g.1 z sk D cy _ ⟨B.exec, B.bytes, B.returns, hml, hown, fun w h => hts w (List.mem_cons_of_mem _ h), B.notSynchronized, (name_of_methodNamed B.named B.method).1, Nat.le_refl _, Nat.le_refl _, hU⟩ ⟨by omega, by omega⟩ ⟨Nat.le_refl _, Nat.le_refl _⟩ ⟨hsz, by omega⟩ hR va_S.rf ⟨hl9.1, hl9.2.1, fun n v hn => ?_⟩
  have h8 : (ls.map (fun o => o.map (am_cv (am_as z sk))))[n]? = some (some (am_cv (am_as z sk) v)) := by rw [List.getElem?_map, hn]; rfl
  exact hl9.2.2 _ (e3 n _ h8)
theorem Ct.weaken {mc ms : Nat} {av : List Value} {Q2 : am_Po} (h : Ct μ d mc ms av g M V R Q) (hq : ∀ v g' M' V' R', Q v g' M' V' R' → Q2 v g' M' V' R') : Ct μ d mc ms av g M V R Q2 := by
  intro l z sk D cy p e ha hc hk s m args below hf h1 h2 h3
  obtain ⟨k, o, a1, a2, a3, ⟨⟨v, g', M', V', R', q1, q2, q3, q4⟩, q5⟩, a5⟩ := h l z sk D cy p e ha hc hk s m args below hf h1 h2 h3
  exact ⟨k, o, a1, a2, a3, ⟨⟨v, g', M', V', R', q1, q2, hq _ _ _ _ _ q3, q4⟩, q5⟩, a5⟩
end AT
end
section
theorem dX0_init_0 : decode cX0_init 0 = .ok (.aload_n 0, 1) := by decide +kernel
theorem dX0_init_1 : decode cX0_init 1 = .ok (.invokespecial 3, 3) := by decide +kernel
theorem dX0_init_4 : decode cX0_init 4 = .ok (.aload_n 0, 1) := by decide +kernel
theorem dX0_init_5 : decode cX0_init 5 = .ok (.bipush 32, 2) := by decide +kernel
theorem dX0_init_7 : decode cX0_init 7 = .ok (.newarray .int, 2) := by decide +kernel
theorem dX0_init_9 : decode cX0_init 9 = .ok (.putfield 11, 3) := by decide +kernel
theorem dX0_init_12 : decode cX0_init 12 = .ok (.return_, 1) := by decide +kernel
theorem dX0_largestSet_0 : decode cX0_largestSet 0 = .ok (.iconst 0, 1) := by decide +kernel
theorem dX0_largestSet_1 : decode cX0_largestSet 1 = .ok (.istore_n 2, 1) := by decide +kernel
theorem dX0_largestSet_2 : decode cX0_largestSet 2 = .ok (.aload_n 0, 1) := by decide +kernel
theorem dX0_largestSet_3 : decode cX0_largestSet 3 = .ok (.getfield 11, 3) := by decide +kernel
theorem dX0_largestSet_6 : decode cX0_largestSet 6 = .ok (.iconst 0, 1) := by decide +kernel
theorem dX0_largestSet_7 : decode cX0_largestSet 7 = .ok (.aload_n 1, 1) := by decide +kernel
theorem dX0_largestSet_8 : decode cX0_largestSet 8 = .ok (.getfield 15, 3) := by decide +kernel
theorem dX0_largestSet_11 : decode cX0_largestSet 11 = .ok (.ineg, 1) := by decide +kernel
theorem dX0_largestSet_12 : decode cX0_largestSet 12 = .ok (.iastore, 1) := by decide +kernel
theorem dX0_largestSet_13 : decode cX0_largestSet 13 = .ok (.iconst 1, 1) := by decide +kernel
theorem dX0_largestSet_14 : decode cX0_largestSet 14 = .ok (.istore_n 3, 1) := by decide +kernel
theorem dX0_largestSet_15 : decode cX0_largestSet 15 = .ok (.iload_n 3, 1) := by decide +kernel
theorem dX0_largestSet_16 : decode cX0_largestSet 16 = .ok (.iconst 1, 1) := by decide +kernel
theorem dX0_largestSet_17 : decode cX0_largestSet 17 = .ok (.aload_n 1, 1) := by decide +kernel
theorem dX0_largestSet_18 : decode cX0_largestSet 18 = .ok (.getfield 21, 3) := by decide +kernel
theorem dX0_largestSet_21 : decode cX0_largestSet 21 = .ok (.ishl, 1) := by decide +kernel
theorem dX0_largestSet_22 : decode cX0_largestSet 22 = .ok (.if_icmp .ge 50, 3) := by decide +kernel
theorem dX0_largestSet_25 : decode cX0_largestSet 25 = .ok (.iload_n 3, 1) := by decide +kernel
theorem dX0_largestSet_26 : decode cX0_largestSet 26 = .ok (.bipush 32, 2) := by decide +kernel
theorem dX0_largestSet_28 : decode cX0_largestSet 28 = .ok (.if_icmp .ge 44, 3) := by decide +kernel
theorem dX0_largestSet_31 : decode cX0_largestSet 31 = .ok (.aload_n 0, 1) := by decide +kernel
theorem dX0_largestSet_32 : decode cX0_largestSet 32 = .ok (.getfield 11, 3) := by decide +kernel
theorem dX0_largestSet_35 : decode cX0_largestSet 35 = .ok (.iload_n 3, 1) := by decide +kernel
theorem dX0_largestSet_36 : decode cX0_largestSet 36 = .ok (.aload_n 0, 1) := by decide +kernel
theorem dX0_largestSet_37 : decode cX0_largestSet 37 = .ok (.aload_n 1, 1) := by decide +kernel
theorem dX0_largestSet_38 : decode cX0_largestSet 38 = .ok (.iload_n 3, 1) := by decide +kernel
theorem dX0_largestSet_39 : decode cX0_largestSet 39 = .ok (.invokevirtual 24, 3) := by decide +kernel
theorem dX0_largestSet_42 : decode cX0_largestSet 42 = .ok (.iastore, 1) := by decide +kernel
theorem dX0_largestSet_43 : decode cX0_largestSet 43 = .ok (.aload_n 0, 1) := by decide +kernel
theorem dX0_largestSet_44 : decode cX0_largestSet 44 = .ok (.getfield 11, 3) := by decide +kernel
theorem dX0_largestSet_47 : decode cX0_largestSet 47 = .ok (.iload_n 3, 1) := by decide +kernel
theorem dX0_largestSet_48 : decode cX0_largestSet 48 = .ok (.iaload, 1) := by decide +kernel
theorem dX0_largestSet_49 : decode cX0_largestSet 49 = .ok (.sipush 1000, 3) := by decide +kernel
theorem dX0_largestSet_52 : decode cX0_largestSet 52 = .ok (.if_icmp .eq 14, 3) := by decide +kernel
theorem dX0_largestSet_55 : decode cX0_largestSet 55 = .ok (.aload_n 1, 1) := by decide +kernel
theorem dX0_largestSet_56 : decode cX0_largestSet 56 = .ok (.iload_n 3, 1) := by decide +kernel
theorem dX0_largestSet_57 : decode cX0_largestSet 57 = .ok (.iload_n 2, 1) := by decide +kernel
theorem dX0_largestSet_58 : decode cX0_largestSet 58 = .ok (.invokestatic 28, 3) := by decide +kernel
theorem dX0_largestSet_61 : decode cX0_largestSet 61 = .ok (.ifCond .eq 5, 3) := by decide +kernel
theorem dX0_largestSet_64 : decode cX0_largestSet 64 = .ok (.iload_n 3, 1) := by decide +kernel
theorem dX0_largestSet_65 : decode cX0_largestSet 65 = .ok (.istore_n 2, 1) := by decide +kernel
theorem dX0_largestSet_66 : decode cX0_largestSet 66 = .ok (.iinc 3 1, 3) := by decide +kernel
theorem dX0_largestSet_69 : decode cX0_largestSet 69 = .ok (.goto (-54), 3) := by decide +kernel
theorem dX0_largestSet_72 : decode cX0_largestSet 72 = .ok (.iload_n 2, 1) := by decide +kernel
theorem dX0_largestSet_73 : decode cX0_largestSet 73 = .ok (.ireturn, 1) := by decide +kernel
theorem dX0_leastEnd_0 : decode cX0_leastEnd 0 = .ok (.sipush 1000, 3) := by decide +kernel
theorem dX0_leastEnd_3 : decode cX0_leastEnd 3 = .ok (.istore_n 3, 1) := by decide +kernel
theorem dX0_leastEnd_4 : decode cX0_leastEnd 4 = .ok (.iconst 0, 1) := by decide +kernel
theorem dX0_leastEnd_5 : decode cX0_leastEnd 5 = .ok (.istore 4, 2) := by decide +kernel
theorem dX0_leastEnd_7 : decode cX0_leastEnd 7 = .ok (.iload 4, 2) := by decide +kernel
theorem dX0_leastEnd_9 : decode cX0_leastEnd 9 = .ok (.aload_n 1, 1) := by decide +kernel
theorem dX0_leastEnd_10 : decode cX0_leastEnd 10 = .ok (.getfield 21, 3) := by decide +kernel
theorem dX0_leastEnd_13 : decode cX0_leastEnd 13 = .ok (.if_icmp .ge 92, 3) := by decide +kernel
theorem dX0_leastEnd_16 : decode cX0_leastEnd 16 = .ok (.iload_n 2, 1) := by decide +kernel
theorem dX0_leastEnd_17 : decode cX0_leastEnd 17 = .ok (.iconst 1, 1) := by decide +kernel
theorem dX0_leastEnd_18 : decode cX0_leastEnd 18 = .ok (.iload 4, 2) := by decide +kernel
theorem dX0_leastEnd_20 : decode cX0_leastEnd 20 = .ok (.ishl, 1) := by decide +kernel
theorem dX0_leastEnd_21 : decode cX0_leastEnd 21 = .ok (.iconst (-1), 1) := by decide +kernel
theorem dX0_leastEnd_22 : decode cX0_leastEnd 22 = .ok (.ixor, 1) := by decide +kernel
theorem dX0_leastEnd_23 : decode cX0_leastEnd 23 = .ok (.iand, 1) := by decide +kernel
theorem dX0_leastEnd_24 : decode cX0_leastEnd 24 = .ok (.istore 5, 2) := by decide +kernel
theorem dX0_leastEnd_26 : decode cX0_leastEnd 26 = .ok (.iload 5, 2) := by decide +kernel
theorem dX0_leastEnd_28 : decode cX0_leastEnd 28 = .ok (.ifCond .lt 71, 3) := by decide +kernel
theorem dX0_leastEnd_31 : decode cX0_leastEnd 31 = .ok (.iload 5, 2) := by decide +kernel
theorem dX0_leastEnd_33 : decode cX0_leastEnd 33 = .ok (.iload_n 2, 1) := by decide +kernel
theorem dX0_leastEnd_34 : decode cX0_leastEnd 34 = .ok (.if_icmp .ge 65, 3) := by decide +kernel
theorem dX0_leastEnd_37 : decode cX0_leastEnd 37 = .ok (.iload 5, 2) := by decide +kernel
theorem dX0_leastEnd_39 : decode cX0_leastEnd 39 = .ok (.bipush 32, 2) := by decide +kernel
theorem dX0_leastEnd_41 : decode cX0_leastEnd 41 = .ok (.if_icmp .ge 58, 3) := by decide +kernel
theorem dX0_leastEnd_44 : decode cX0_leastEnd 44 = .ok (.aload_n 0, 1) := by decide +kernel
theorem dX0_leastEnd_45 : decode cX0_leastEnd 45 = .ok (.getfield 11, 3) := by decide +kernel
theorem dX0_leastEnd_48 : decode cX0_leastEnd 48 = .ok (.iload 5, 2) := by decide +kernel
theorem dX0_leastEnd_50 : decode cX0_leastEnd 50 = .ok (.iaload, 1) := by decide +kernel
theorem dX0_leastEnd_51 : decode cX0_leastEnd 51 = .ok (.sipush 1000, 3) := by decide +kernel
theorem dX0_leastEnd_54 : decode cX0_leastEnd 54 = .ok (.if_icmp .eq 45, 3) := by decide +kernel
theorem dX0_leastEnd_57 : decode cX0_leastEnd 57 = .ok (.aload_n 1, 1) := by decide +kernel
theorem dX0_leastEnd_58 : decode cX0_leastEnd 58 = .ok (.iload 4, 2) := by decide +kernel
theorem dX0_leastEnd_60 : decode cX0_leastEnd 60 = .ok (.aload_n 0, 1) := by decide +kernel
theorem dX0_leastEnd_61 : decode cX0_leastEnd 61 = .ok (.getfield 11, 3) := by decide +kernel
theorem dX0_leastEnd_64 : decode cX0_leastEnd 64 = .ok (.iload 5, 2) := by decide +kernel
theorem dX0_leastEnd_66 : decode cX0_leastEnd 66 = .ok (.iaload, 1) := by decide +kernel
theorem dX0_leastEnd_67 : decode cX0_leastEnd 67 = .ok (.aload_n 1, 1) := by decide +kernel
theorem dX0_leastEnd_68 : decode cX0_leastEnd 68 = .ok (.getfield 15, 3) := by decide +kernel
theorem dX0_leastEnd_71 : decode cX0_leastEnd 71 = .ok (.iadd, 1) := by decide +kernel
theorem dX0_leastEnd_72 : decode cX0_leastEnd 72 = .ok (.invokevirtual 32, 3) := by decide +kernel
theorem dX0_leastEnd_75 : decode cX0_leastEnd 75 = .ok (.istore 6, 2) := by decide +kernel
theorem dX0_leastEnd_77 : decode cX0_leastEnd 77 = .ok (.iload 6, 2) := by decide +kernel
theorem dX0_leastEnd_79 : decode cX0_leastEnd 79 = .ok (.bipush (-9), 2) := by decide +kernel
theorem dX0_leastEnd_81 : decode cX0_leastEnd 81 = .ok (.if_icmp .eq 18, 3) := by decide +kernel
theorem dX0_leastEnd_84 : decode cX0_leastEnd 84 = .ok (.iload_n 3, 1) := by decide +kernel
theorem dX0_leastEnd_85 : decode cX0_leastEnd 85 = .ok (.iload 6, 2) := by decide +kernel
theorem dX0_leastEnd_87 : decode cX0_leastEnd 87 = .ok (.aload_n 1, 1) := by decide +kernel
theorem dX0_leastEnd_88 : decode cX0_leastEnd 88 = .ok (.getfield 36, 3) := by decide +kernel
theorem dX0_leastEnd_91 : decode cX0_leastEnd 91 = .ok (.iload 4, 2) := by decide +kernel
theorem dX0_leastEnd_93 : decode cX0_leastEnd 93 = .ok (.iaload, 1) := by decide +kernel
theorem dX0_leastEnd_94 : decode cX0_leastEnd 94 = .ok (.iadd, 1) := by decide +kernel
theorem dX0_leastEnd_95 : decode cX0_leastEnd 95 = .ok (.invokestatic 39, 3) := by decide +kernel
theorem dX0_leastEnd_98 : decode cX0_leastEnd 98 = .ok (.istore_n 3, 1) := by decide +kernel
theorem dX0_leastEnd_99 : decode cX0_leastEnd 99 = .ok (.iinc 4 1, 3) := by decide +kernel
theorem dX0_leastEnd_102 : decode cX0_leastEnd 102 = .ok (.goto (-95), 3) := by decide +kernel
theorem dX0_leastEnd_105 : decode cX0_leastEnd 105 = .ok (.iload_n 3, 1) := by decide +kernel
theorem dX0_leastEnd_106 : decode cX0_leastEnd 106 = .ok (.ireturn, 1) := by decide +kernel
theorem dX0_isBetter_0 : decode cX0_isBetter 0 = .ok (.iload_n 1, 1) := by decide +kernel
theorem dX0_isBetter_1 : decode cX0_isBetter 1 = .ok (.invokestatic 44, 3) := by decide +kernel
theorem dX0_isBetter_4 : decode cX0_isBetter 4 = .ok (.iload_n 2, 1) := by decide +kernel
theorem dX0_isBetter_5 : decode cX0_isBetter 5 = .ok (.invokestatic 44, 3) := by decide +kernel
theorem dX0_isBetter_8 : decode cX0_isBetter 8 = .ok (.isub, 1) := by decide +kernel
theorem dX0_isBetter_9 : decode cX0_isBetter 9 = .ok (.istore_n 3, 1) := by decide +kernel
theorem dX0_isBetter_10 : decode cX0_isBetter 10 = .ok (.iload_n 3, 1) := by decide +kernel
theorem dX0_isBetter_11 : decode cX0_isBetter 11 = .ok (.ifCond .gt 20, 3) := by decide +kernel
theorem dX0_isBetter_14 : decode cX0_isBetter 14 = .ok (.iload_n 3, 1) := by decide +kernel
theorem dX0_isBetter_15 : decode cX0_isBetter 15 = .ok (.ifCond .ne 20, 3) := by decide +kernel
theorem dX0_isBetter_18 : decode cX0_isBetter 18 = .ok (.aload_n 0, 1) := by decide +kernel
theorem dX0_isBetter_19 : decode cX0_isBetter 19 = .ok (.iload_n 1, 1) := by decide +kernel
theorem dX0_isBetter_20 : decode cX0_isBetter 20 = .ok (.invokestatic 50, 3) := by decide +kernel
theorem dX0_isBetter_23 : decode cX0_isBetter 23 = .ok (.aload_n 0, 1) := by decide +kernel
theorem dX0_isBetter_24 : decode cX0_isBetter 24 = .ok (.iload_n 2, 1) := by decide +kernel
theorem dX0_isBetter_25 : decode cX0_isBetter 25 = .ok (.invokestatic 50, 3) := by decide +kernel
theorem dX0_isBetter_28 : decode cX0_isBetter 28 = .ok (.if_icmp .le 7, 3) := by decide +kernel
theorem dX0_isBetter_31 : decode cX0_isBetter 31 = .ok (.iconst 1, 1) := by decide +kernel
theorem dX0_isBetter_32 : decode cX0_isBetter 32 = .ok (.goto 4, 3) := by decide +kernel
theorem dX0_isBetter_35 : decode cX0_isBetter 35 = .ok (.iconst 0, 1) := by decide +kernel
theorem dX0_isBetter_36 : decode cX0_isBetter 36 = .ok (.ireturn, 1) := by decide +kernel
theorem dX0_weightOf_0 : decode cX0_weightOf 0 = .ok (.iconst 0, 1) := by decide +kernel
theorem dX0_weightOf_1 : decode cX0_weightOf 1 = .ok (.istore_n 2, 1) := by decide +kernel
theorem dX0_weightOf_2 : decode cX0_weightOf 2 = .ok (.iconst 0, 1) := by decide +kernel
theorem dX0_weightOf_3 : decode cX0_weightOf 3 = .ok (.istore_n 3, 1) := by decide +kernel
theorem dX0_weightOf_4 : decode cX0_weightOf 4 = .ok (.iload_n 3, 1) := by decide +kernel
theorem dX0_weightOf_5 : decode cX0_weightOf 5 = .ok (.aload_n 0, 1) := by decide +kernel
theorem dX0_weightOf_6 : decode cX0_weightOf 6 = .ok (.getfield 21, 3) := by decide +kernel
theorem dX0_weightOf_9 : decode cX0_weightOf 9 = .ok (.if_icmp .ge 26, 3) := by decide +kernel
theorem dX0_weightOf_12 : decode cX0_weightOf 12 = .ok (.iload_n 1, 1) := by decide +kernel
theorem dX0_weightOf_13 : decode cX0_weightOf 13 = .ok (.iconst 1, 1) := by decide +kernel
theorem dX0_weightOf_14 : decode cX0_weightOf 14 = .ok (.iload_n 3, 1) := by decide +kernel
theorem dX0_weightOf_15 : decode cX0_weightOf 15 = .ok (.ishl, 1) := by decide +kernel
theorem dX0_weightOf_16 : decode cX0_weightOf 16 = .ok (.iand, 1) := by decide +kernel
theorem dX0_weightOf_17 : decode cX0_weightOf 17 = .ok (.ifCond .eq 12, 3) := by decide +kernel
theorem dX0_weightOf_20 : decode cX0_weightOf 20 = .ok (.iload_n 2, 1) := by decide +kernel
theorem dX0_weightOf_21 : decode cX0_weightOf 21 = .ok (.aload_n 0, 1) := by decide +kernel
theorem dX0_weightOf_22 : decode cX0_weightOf 22 = .ok (.getfield 53, 3) := by decide +kernel
theorem dX0_weightOf_25 : decode cX0_weightOf 25 = .ok (.iload_n 3, 1) := by decide +kernel
theorem dX0_weightOf_26 : decode cX0_weightOf 26 = .ok (.iaload, 1) := by decide +kernel
theorem dX0_weightOf_27 : decode cX0_weightOf 27 = .ok (.iadd, 1) := by decide +kernel
theorem dX0_weightOf_28 : decode cX0_weightOf 28 = .ok (.istore_n 2, 1) := by decide +kernel
theorem dX0_weightOf_29 : decode cX0_weightOf 29 = .ok (.iinc 3 1, 3) := by decide +kernel
theorem dX0_weightOf_32 : decode cX0_weightOf 32 = .ok (.goto (-28), 3) := by decide +kernel
theorem dX0_weightOf_35 : decode cX0_weightOf 35 = .ok (.iload_n 2, 1) := by decide +kernel
theorem dX0_weightOf_36 : decode cX0_weightOf 36 = .ok (.ireturn, 1) := by decide +kernel
theorem dX1_init_0 : decode cX1_init 0 = .ok (.aload_n 0, 1) := by decide +kernel
theorem dX1_init_1 : decode cX1_init 1 = .ok (.invokespecial 3, 3) := by decide +kernel
theorem dX1_init_4 : decode cX1_init 4 = .ok (.aload_n 0, 1) := by decide +kernel
theorem dX1_init_5 : decode cX1_init 5 = .ok (.bipush 6, 2) := by decide +kernel
theorem dX1_init_7 : decode cX1_init 7 = .ok (.anewarray 9, 3) := by decide +kernel
theorem dX1_init_10 : decode cX1_init 10 = .ok (.putfield 11, 3) := by decide +kernel
theorem dX1_init_13 : decode cX1_init 13 = .ok (.iconst 0, 1) := by decide +kernel
theorem dX1_init_14 : decode cX1_init 14 = .ok (.istore_n 1, 1) := by decide +kernel
theorem dX1_init_15 : decode cX1_init 15 = .ok (.iload_n 1, 1) := by decide +kernel
theorem dX1_init_16 : decode cX1_init 16 = .ok (.bipush 6, 2) := by decide +kernel
theorem dX1_init_18 : decode cX1_init 18 = .ok (.if_icmp .ge 22, 3) := by decide +kernel
theorem dX1_init_21 : decode cX1_init 21 = .ok (.aload_n 0, 1) := by decide +kernel
theorem dX1_init_22 : decode cX1_init 22 = .ok (.getfield 11, 3) := by decide +kernel
theorem dX1_init_25 : decode cX1_init 25 = .ok (.iload_n 1, 1) := by decide +kernel
theorem dX1_init_26 : decode cX1_init 26 = .ok (.new 9, 3) := by decide +kernel
theorem dX1_init_29 : decode cX1_init 29 = .ok (.dup, 1) := by decide +kernel
theorem dX1_init_30 : decode cX1_init 30 = .ok (.invokespecial 17, 3) := by decide +kernel
theorem dX1_init_33 : decode cX1_init 33 = .ok (.aastore, 1) := by decide +kernel
theorem dX1_init_34 : decode cX1_init 34 = .ok (.iinc 1 1, 3) := by decide +kernel
theorem dX1_init_37 : decode cX1_init 37 = .ok (.goto (-22), 3) := by decide +kernel
theorem dX1_init_40 : decode cX1_init 40 = .ok (.return_, 1) := by decide +kernel
theorem dX1_add_0 : decode cX1_add 0 = .ok (.aload_n 0, 1) := by decide +kernel
theorem dX1_add_1 : decode cX1_add 1 = .ok (.getfield 18, 3) := by decide +kernel
theorem dX1_add_4 : decode cX1_add 4 = .ok (.bipush 6, 2) := by decide +kernel
theorem dX1_add_6 : decode cX1_add 6 = .ok (.if_icmp .lt 7, 3) := by decide +kernel
theorem dX1_add_9 : decode cX1_add 9 = .ok (.aload_n 0, 1) := by decide +kernel
theorem dX1_add_10 : decode cX1_add 10 = .ok (.invokevirtual 22, 3) := by decide +kernel
theorem dX1_add_13 : decode cX1_add 13 = .ok (.aload_n 0, 1) := by decide +kernel
theorem dX1_add_14 : decode cX1_add 14 = .ok (.getfield 11, 3) := by decide +kernel
theorem dX1_add_17 : decode cX1_add 17 = .ok (.aload_n 0, 1) := by decide +kernel
theorem dX1_add_18 : decode cX1_add 18 = .ok (.getfield 18, 3) := by decide +kernel
theorem dX1_add_21 : decode cX1_add 21 = .ok (.aaload, 1) := by decide +kernel
theorem dX1_add_22 : decode cX1_add 22 = .ok (.aload_n 1, 1) := by decide +kernel
theorem dX1_add_23 : decode cX1_add 23 = .ok (.invokevirtual 25, 3) := by decide +kernel
theorem dX1_add_26 : decode cX1_add 26 = .ok (.aload_n 0, 1) := by decide +kernel
theorem dX1_add_27 : decode cX1_add 27 = .ok (.dup, 1) := by decide +kernel
theorem dX1_add_28 : decode cX1_add 28 = .ok (.getfield 18, 3) := by decide +kernel
theorem dX1_add_31 : decode cX1_add 31 = .ok (.iconst 1, 1) := by decide +kernel
theorem dX1_add_32 : decode cX1_add 32 = .ok (.iadd, 1) := by decide +kernel
theorem dX1_add_33 : decode cX1_add 33 = .ok (.putfield 18, 3) := by decide +kernel
theorem dX1_add_36 : decode cX1_add 36 = .ok (.return_, 1) := by decide +kernel
theorem dX1_loseOldest_0 : decode cX1_loseOldest 0 = .ok (.aload_n 0, 1) := by decide +kernel
theorem dX1_loseOldest_1 : decode cX1_loseOldest 1 = .ok (.getfield 11, 3) := by decide +kernel
theorem dX1_loseOldest_4 : decode cX1_loseOldest 4 = .ok (.iconst 0, 1) := by decide +kernel
theorem dX1_loseOldest_5 : decode cX1_loseOldest 5 = .ok (.aaload, 1) := by decide +kernel
theorem dX1_loseOldest_6 : decode cX1_loseOldest 6 = .ok (.astore_n 1, 1) := by decide +kernel
theorem dX1_loseOldest_7 : decode cX1_loseOldest 7 = .ok (.iconst 1, 1) := by decide +kernel
theorem dX1_loseOldest_8 : decode cX1_loseOldest 8 = .ok (.istore_n 2, 1) := by decide +kernel
theorem dX1_loseOldest_9 : decode cX1_loseOldest 9 = .ok (.iload_n 2, 1) := by decide +kernel
theorem dX1_loseOldest_10 : decode cX1_loseOldest 10 = .ok (.bipush 6, 2) := by decide +kernel
theorem dX1_loseOldest_12 : decode cX1_loseOldest 12 = .ok (.if_icmp .ge 23, 3) := by decide +kernel
theorem dX1_loseOldest_15 : decode cX1_loseOldest 15 = .ok (.aload_n 0, 1) := by decide +kernel
theorem dX1_loseOldest_16 : decode cX1_loseOldest 16 = .ok (.getfield 11, 3) := by decide +kernel
theorem dX1_loseOldest_19 : decode cX1_loseOldest 19 = .ok (.iload_n 2, 1) := by decide +kernel
theorem dX1_loseOldest_20 : decode cX1_loseOldest 20 = .ok (.iconst 1, 1) := by decide +kernel
theorem dX1_loseOldest_21 : decode cX1_loseOldest 21 = .ok (.isub, 1) := by decide +kernel
theorem dX1_loseOldest_22 : decode cX1_loseOldest 22 = .ok (.aload_n 0, 1) := by decide +kernel
theorem dX1_loseOldest_23 : decode cX1_loseOldest 23 = .ok (.getfield 11, 3) := by decide +kernel
theorem dX1_loseOldest_26 : decode cX1_loseOldest 26 = .ok (.iload_n 2, 1) := by decide +kernel
theorem dX1_loseOldest_27 : decode cX1_loseOldest 27 = .ok (.aaload, 1) := by decide +kernel
theorem dX1_loseOldest_28 : decode cX1_loseOldest 28 = .ok (.aastore, 1) := by decide +kernel
theorem dX1_loseOldest_29 : decode cX1_loseOldest 29 = .ok (.iinc 2 1, 3) := by decide +kernel
theorem dX1_loseOldest_32 : decode cX1_loseOldest 32 = .ok (.goto (-23), 3) := by decide +kernel
theorem dX1_loseOldest_35 : decode cX1_loseOldest 35 = .ok (.aload_n 0, 1) := by decide +kernel
theorem dX1_loseOldest_36 : decode cX1_loseOldest 36 = .ok (.getfield 11, 3) := by decide +kernel
theorem dX1_loseOldest_39 : decode cX1_loseOldest 39 = .ok (.iconst 5, 1) := by decide +kernel
theorem dX1_loseOldest_40 : decode cX1_loseOldest 40 = .ok (.aload_n 1, 1) := by decide +kernel
theorem dX1_loseOldest_41 : decode cX1_loseOldest 41 = .ok (.aastore, 1) := by decide +kernel
theorem dX1_loseOldest_42 : decode cX1_loseOldest 42 = .ok (.aload_n 0, 1) := by decide +kernel
theorem dX1_loseOldest_43 : decode cX1_loseOldest 43 = .ok (.iconst 5, 1) := by decide +kernel
theorem dX1_loseOldest_44 : decode cX1_loseOldest 44 = .ok (.putfield 18, 3) := by decide +kernel
theorem dX1_loseOldest_47 : decode cX1_loseOldest 47 = .ok (.return_, 1) := by decide +kernel
theorem dX1_giveLatestTo_0 : decode cX1_giveLatestTo 0 = .ok (.aload_n 0, 1) := by decide +kernel
theorem dX1_giveLatestTo_1 : decode cX1_giveLatestTo 1 = .ok (.getfield 18, 3) := by decide +kernel
theorem dX1_giveLatestTo_4 : decode cX1_giveLatestTo 4 = .ok (.ifCond .gt 5, 3) := by decide +kernel
theorem dX1_giveLatestTo_7 : decode cX1_giveLatestTo 7 = .ok (.iconst 0, 1) := by decide +kernel
theorem dX1_giveLatestTo_8 : decode cX1_giveLatestTo 8 = .ok (.ireturn, 1) := by decide +kernel
theorem dX1_giveLatestTo_9 : decode cX1_giveLatestTo 9 = .ok (.aload_n 0, 1) := by decide +kernel
theorem dX1_giveLatestTo_10 : decode cX1_giveLatestTo 10 = .ok (.dup, 1) := by decide +kernel
theorem dX1_giveLatestTo_11 : decode cX1_giveLatestTo 11 = .ok (.getfield 18, 3) := by decide +kernel
theorem dX1_giveLatestTo_14 : decode cX1_giveLatestTo 14 = .ok (.iconst 1, 1) := by decide +kernel
theorem dX1_giveLatestTo_15 : decode cX1_giveLatestTo 15 = .ok (.isub, 1) := by decide +kernel
theorem dX1_giveLatestTo_16 : decode cX1_giveLatestTo 16 = .ok (.putfield 18, 3) := by decide +kernel
theorem dX1_giveLatestTo_19 : decode cX1_giveLatestTo 19 = .ok (.aload_n 1, 1) := by decide +kernel
theorem dX1_giveLatestTo_20 : decode cX1_giveLatestTo 20 = .ok (.aload_n 0, 1) := by decide +kernel
theorem dX1_giveLatestTo_21 : decode cX1_giveLatestTo 21 = .ok (.getfield 11, 3) := by decide +kernel
theorem dX1_giveLatestTo_24 : decode cX1_giveLatestTo 24 = .ok (.aload_n 0, 1) := by decide +kernel
theorem dX1_giveLatestTo_25 : decode cX1_giveLatestTo 25 = .ok (.getfield 18, 3) := by decide +kernel
theorem dX1_giveLatestTo_28 : decode cX1_giveLatestTo 28 = .ok (.aaload, 1) := by decide +kernel
theorem dX1_giveLatestTo_29 : decode cX1_giveLatestTo 29 = .ok (.invokevirtual 25, 3) := by decide +kernel
theorem dX1_giveLatestTo_32 : decode cX1_giveLatestTo 32 = .ok (.iconst 1, 1) := by decide +kernel
theorem dX1_giveLatestTo_33 : decode cX1_giveLatestTo 33 = .ok (.ireturn, 1) := by decide +kernel
theorem dX2_init_0 : decode cX2_init 0 = .ok (.aload_n 0, 1) := by decide +kernel
theorem dX2_init_1 : decode cX2_init 1 = .ok (.invokespecial 3, 3) := by decide +kernel
theorem dX2_init_4 : decode cX2_init 4 = .ok (.aload_n 0, 1) := by decide +kernel
theorem dX2_init_5 : decode cX2_init 5 = .ok (.new 9, 3) := by decide +kernel
theorem dX2_init_8 : decode cX2_init 8 = .ok (.dup, 1) := by decide +kernel
theorem dX2_init_9 : decode cX2_init 9 = .ok (.invokespecial 11, 3) := by decide +kernel
theorem dX2_init_12 : decode cX2_init 12 = .ok (.putfield 12, 3) := by decide +kernel
theorem dX2_init_15 : decode cX2_init 15 = .ok (.return_, 1) := by decide +kernel
theorem dX2_readInto_0 : decode cX2_readInto 0 = .ok (.aload_n 0, 1) := by decide +kernel
theorem dX2_readInto_1 : decode cX2_readInto 1 = .ok (.getfield 12, 3) := by decide +kernel
theorem dX2_readInto_4 : decode cX2_readInto 4 = .ok (.aload_n 2, 1) := by decide +kernel
theorem dX2_readInto_5 : decode cX2_readInto 5 = .ok (.iload_n 3, 1) := by decide +kernel
theorem dX2_readInto_6 : decode cX2_readInto 6 = .ok (.invokevirtual 18, 3) := by decide +kernel
theorem dX2_readInto_9 : decode cX2_readInto 9 = .ok (.aload_n 0, 1) := by decide +kernel
theorem dX2_readInto_10 : decode cX2_readInto 10 = .ok (.iconst 0, 1) := by decide +kernel
theorem dX2_readInto_11 : decode cX2_readInto 11 = .ok (.putfield 22, 3) := by decide +kernel
theorem dX2_readInto_14 : decode cX2_readInto 14 = .ok (.aload_n 0, 1) := by decide +kernel
theorem dX2_readInto_15 : decode cX2_readInto 15 = .ok (.iconst 0, 1) := by decide +kernel
theorem dX2_readInto_16 : decode cX2_readInto 16 = .ok (.putfield 26, 3) := by decide +kernel
theorem dX2_readInto_19 : decode cX2_readInto 19 = .ok (.aload_n 1, 1) := by decide +kernel
theorem dX2_readInto_20 : decode cX2_readInto 20 = .ok (.invokevirtual 30, 3) := by decide +kernel
theorem dX2_readInto_23 : decode cX2_readInto 23 = .ok (.iconst 0, 1) := by decide +kernel
theorem dX2_readInto_24 : decode cX2_readInto 24 = .ok (.istore 4, 2) := by decide +kernel
theorem dX2_readInto_26 : decode cX2_readInto 26 = .ok (.iload 4, 2) := by decide +kernel
theorem dX2_readInto_28 : decode cX2_readInto 28 = .ok (.bipush 120, 2) := by decide +kernel
theorem dX2_readInto_30 : decode cX2_readInto 30 = .ok (.if_icmp .gt 41, 3) := by decide +kernel
theorem dX2_readInto_33 : decode cX2_readInto 33 = .ok (.aload_n 0, 1) := by decide +kernel
theorem dX2_readInto_34 : decode cX2_readInto 34 = .ok (.invokevirtual 35, 3) := by decide +kernel
theorem dX2_readInto_37 : decode cX2_readInto 37 = .ok (.aload_n 0, 1) := by decide +kernel
theorem dX2_readInto_38 : decode cX2_readInto 38 = .ok (.getfield 38, 3) := by decide +kernel
theorem dX2_readInto_41 : decode cX2_readInto 41 = .ok (.ifCond .ne 6, 3) := by decide +kernel
theorem dX2_readInto_44 : decode cX2_readInto 44 = .ok (.iload 4, 2) := by decide +kernel
theorem dX2_readInto_46 : decode cX2_readInto 46 = .ok (.ireturn, 1) := by decide +kernel
theorem dX2_readInto_47 : decode cX2_readInto 47 = .ok (.aload_n 0, 1) := by decide +kernel
theorem dX2_readInto_48 : decode cX2_readInto 48 = .ok (.aload_n 1, 1) := by decide +kernel
theorem dX2_readInto_49 : decode cX2_readInto 49 = .ok (.invokevirtual 41, 3) := by decide +kernel
theorem dX2_readInto_52 : decode cX2_readInto 52 = .ok (.ifCond .eq 19, 3) := by decide +kernel
theorem dX2_readInto_55 : decode cX2_readInto 55 = .ok (.aload_n 0, 1) := by decide +kernel
theorem dX2_readInto_56 : decode cX2_readInto 56 = .ok (.invokevirtual 45, 3) := by decide +kernel
theorem dX2_readInto_59 : decode cX2_readInto 59 = .ok (.ifCond .ne 6, 3) := by decide +kernel
theorem dX2_readInto_62 : decode cX2_readInto 62 = .ok (.goto 9, 3) := by decide +kernel
theorem dX2_readInto_65 : decode cX2_readInto 65 = .ok (.iinc 4 1, 3) := by decide +kernel
theorem dX2_readInto_68 : decode cX2_readInto 68 = .ok (.goto (-42), 3) := by decide +kernel
theorem dX2_readInto_71 : decode cX2_readInto 71 = .ok (.bipush (-10), 2) := by decide +kernel
theorem dX2_readInto_73 : decode cX2_readInto 73 = .ok (.aload_n 0, 1) := by decide +kernel
theorem dX2_readInto_74 : decode cX2_readInto 74 = .ok (.getfield 49, 3) := by decide +kernel
theorem dX2_readInto_77 : decode cX2_readInto 77 = .ok (.isub, 1) := by decide +kernel
theorem dX2_readInto_78 : decode cX2_readInto 78 = .ok (.ireturn, 1) := by decide +kernel
theorem dX2_readToken_0 : decode cX2_readToken 0 = .ok (.aload_n 0, 1) := by decide +kernel
theorem dX2_readToken_1 : decode cX2_readToken 1 = .ok (.getfield 22, 3) := by decide +kernel
theorem dX2_readToken_4 : decode cX2_readToken 4 = .ok (.ifCond .lt 75, 3) := by decide +kernel
theorem dX2_readToken_7 : decode cX2_readToken 7 = .ok (.aload_n 0, 1) := by decide +kernel
theorem dX2_readToken_8 : decode cX2_readToken 8 = .ok (.getfield 22, 3) := by decide +kernel
theorem dX2_readToken_11 : decode cX2_readToken 11 = .ok (.aload_n 0, 1) := by decide +kernel
theorem dX2_readToken_12 : decode cX2_readToken 12 = .ok (.getfield 12, 3) := by decide +kernel
theorem dX2_readToken_15 : decode cX2_readToken 15 = .ok (.getfield 52, 3) := by decide +kernel
theorem dX2_readToken_18 : decode cX2_readToken 18 = .ok (.if_icmp .ge 61, 3) := by decide +kernel
theorem dX2_readToken_21 : decode cX2_readToken 21 = .ok (.aload_n 0, 1) := by decide +kernel
theorem dX2_readToken_22 : decode cX2_readToken 22 = .ok (.aload_n 0, 1) := by decide +kernel
theorem dX2_readToken_23 : decode cX2_readToken 23 = .ok (.getfield 12, 3) := by decide +kernel
theorem dX2_readToken_26 : decode cX2_readToken 26 = .ok (.getfield 55, 3) := by decide +kernel
theorem dX2_readToken_29 : decode cX2_readToken 29 = .ok (.aload_n 0, 1) := by decide +kernel
theorem dX2_readToken_30 : decode cX2_readToken 30 = .ok (.getfield 22, 3) := by decide +kernel
theorem dX2_readToken_33 : decode cX2_readToken 33 = .ok (.iaload, 1) := by decide +kernel
theorem dX2_readToken_34 : decode cX2_readToken 34 = .ok (.putfield 38, 3) := by decide +kernel
theorem dX2_readToken_37 : decode cX2_readToken 37 = .ok (.aload_n 0, 1) := by decide +kernel
theorem dX2_readToken_38 : decode cX2_readToken 38 = .ok (.aload_n 0, 1) := by decide +kernel
theorem dX2_readToken_39 : decode cX2_readToken 39 = .ok (.getfield 12, 3) := by decide +kernel
theorem dX2_readToken_42 : decode cX2_readToken 42 = .ok (.getfield 59, 3) := by decide +kernel
theorem dX2_readToken_45 : decode cX2_readToken 45 = .ok (.aload_n 0, 1) := by decide +kernel
theorem dX2_readToken_46 : decode cX2_readToken 46 = .ok (.getfield 22, 3) := by decide +kernel
theorem dX2_readToken_49 : decode cX2_readToken 49 = .ok (.iaload, 1) := by decide +kernel
theorem dX2_readToken_50 : decode cX2_readToken 50 = .ok (.putfield 49, 3) := by decide +kernel
theorem dX2_readToken_53 : decode cX2_readToken 53 = .ok (.aload_n 0, 1) := by decide +kernel
theorem dX2_readToken_54 : decode cX2_readToken 54 = .ok (.aload_n 0, 1) := by decide +kernel
theorem dX2_readToken_55 : decode cX2_readToken 55 = .ok (.getfield 12, 3) := by decide +kernel
theorem dX2_readToken_58 : decode cX2_readToken 58 = .ok (.getfield 62, 3) := by decide +kernel
theorem dX2_readToken_61 : decode cX2_readToken 61 = .ok (.aload_n 0, 1) := by decide +kernel
theorem dX2_readToken_62 : decode cX2_readToken 62 = .ok (.getfield 22, 3) := by decide +kernel
theorem dX2_readToken_65 : decode cX2_readToken 65 = .ok (.iaload, 1) := by decide +kernel
theorem dX2_readToken_66 : decode cX2_readToken 66 = .ok (.putfield 65, 3) := by decide +kernel
theorem dX2_readToken_69 : decode cX2_readToken 69 = .ok (.aload_n 0, 1) := by decide +kernel
theorem dX2_readToken_70 : decode cX2_readToken 70 = .ok (.dup, 1) := by decide +kernel
theorem dX2_readToken_71 : decode cX2_readToken 71 = .ok (.getfield 22, 3) := by decide +kernel
theorem dX2_readToken_74 : decode cX2_readToken 74 = .ok (.iconst 1, 1) := by decide +kernel
theorem dX2_readToken_75 : decode cX2_readToken 75 = .ok (.iadd, 1) := by decide +kernel
theorem dX2_readToken_76 : decode cX2_readToken 76 = .ok (.putfield 22, 3) := by decide +kernel
theorem dX2_readToken_79 : decode cX2_readToken 79 = .ok (.return_, 1) := by decide +kernel
theorem dX2_readSemicolon_0 : decode cX2_readSemicolon 0 = .ok (.aload_n 0, 1) := by decide +kernel
theorem dX2_readSemicolon_1 : decode cX2_readSemicolon 1 = .ok (.invokevirtual 35, 3) := by decide +kernel
theorem dX2_readSemicolon_4 : decode cX2_readSemicolon 4 = .ok (.aload_n 0, 1) := by decide +kernel
theorem dX2_readSemicolon_5 : decode cX2_readSemicolon 5 = .ok (.getfield 38, 3) := by decide +kernel
theorem dX2_readSemicolon_8 : decode cX2_readSemicolon 8 = .ok (.iconst 3, 1) := by decide +kernel
theorem dX2_readSemicolon_9 : decode cX2_readSemicolon 9 = .ok (.if_icmp .ne 7, 3) := by decide +kernel
theorem dX2_readSemicolon_12 : decode cX2_readSemicolon 12 = .ok (.iconst 1, 1) := by decide +kernel
theorem dX2_readSemicolon_13 : decode cX2_readSemicolon 13 = .ok (.goto 4, 3) := by decide +kernel
theorem dX2_readSemicolon_16 : decode cX2_readSemicolon 16 = .ok (.iconst 0, 1) := by decide +kernel
theorem dX2_readSemicolon_17 : decode cX2_readSemicolon 17 = .ok (.ireturn, 1) := by decide +kernel
theorem dX2_readNumber_0 : decode cX2_readNumber 0 = .ok (.aload_n 0, 1) := by decide +kernel
theorem dX2_readNumber_1 : decode cX2_readNumber 1 = .ok (.invokevirtual 35, 3) := by decide +kernel
theorem dX2_readNumber_4 : decode cX2_readNumber 4 = .ok (.aload_n 0, 1) := by decide +kernel
theorem dX2_readNumber_5 : decode cX2_readNumber 5 = .ok (.getfield 38, 3) := by decide +kernel
theorem dX2_readNumber_8 : decode cX2_readNumber 8 = .ok (.iconst 2, 1) := by decide +kernel
theorem dX2_readNumber_9 : decode cX2_readNumber 9 = .ok (.if_icmp .ne 23, 3) := by decide +kernel
theorem dX2_readNumber_12 : decode cX2_readNumber 12 = .ok (.aload_n 0, 1) := by decide +kernel
theorem dX2_readNumber_13 : decode cX2_readNumber 13 = .ok (.getfield 65, 3) := by decide +kernel
theorem dX2_readNumber_16 : decode cX2_readNumber 16 = .ok (.iload_n 1, 1) := by decide +kernel
theorem dX2_readNumber_17 : decode cX2_readNumber 17 = .ok (.if_icmp .lt 15, 3) := by decide +kernel
theorem dX2_readNumber_20 : decode cX2_readNumber 20 = .ok (.aload_n 0, 1) := by decide +kernel
theorem dX2_readNumber_21 : decode cX2_readNumber 21 = .ok (.getfield 65, 3) := by decide +kernel
theorem dX2_readNumber_24 : decode cX2_readNumber 24 = .ok (.iload_n 2, 1) := by decide +kernel
theorem dX2_readNumber_25 : decode cX2_readNumber 25 = .ok (.if_icmp .gt 7, 3) := by decide +kernel
theorem dX2_readNumber_28 : decode cX2_readNumber 28 = .ok (.iconst 1, 1) := by decide +kernel
theorem dX2_readNumber_29 : decode cX2_readNumber 29 = .ok (.goto 4, 3) := by decide +kernel
theorem dX2_readNumber_32 : decode cX2_readNumber 32 = .ok (.iconst 0, 1) := by decide +kernel
theorem dX2_readNumber_33 : decode cX2_readNumber 33 = .ok (.ireturn, 1) := by decide +kernel
theorem dX2_readItem_0 : decode cX2_readItem 0 = .ok (.aload_n 0, 1) := by decide +kernel
theorem dX2_readItem_1 : decode cX2_readItem 1 = .ok (.getfield 38, 3) := by decide +kernel
theorem dX2_readItem_4 : decode cX2_readItem 4 = .ok (.tableswitch 120 4 7 #[32, 53, 75, 97], 32) := by decide +kernel
theorem dX2_readItem_36 : decode cX2_readItem 36 = .ok (.aload_n 0, 1) := by decide +kernel
theorem dX2_readItem_37 : decode cX2_readItem 37 = .ok (.getfield 26, 3) := by decide +kernel
theorem dX2_readItem_40 : decode cX2_readItem 40 = .ok (.ifCond .ne 15, 3) := by decide +kernel
theorem dX2_readItem_43 : decode cX2_readItem 43 = .ok (.aload_n 0, 1) := by decide +kernel
theorem dX2_readItem_44 : decode cX2_readItem 44 = .ok (.aload_n 1, 1) := by decide +kernel
theorem dX2_readItem_45 : decode cX2_readItem 45 = .ok (.invokevirtual 68, 3) := by decide +kernel
theorem dX2_readItem_48 : decode cX2_readItem 48 = .ok (.ifCond .eq 7, 3) := by decide +kernel
theorem dX2_readItem_51 : decode cX2_readItem 51 = .ok (.iconst 1, 1) := by decide +kernel
theorem dX2_readItem_52 : decode cX2_readItem 52 = .ok (.goto 4, 3) := by decide +kernel
theorem dX2_readItem_55 : decode cX2_readItem 55 = .ok (.iconst 0, 1) := by decide +kernel
theorem dX2_readItem_56 : decode cX2_readItem 56 = .ok (.ireturn, 1) := by decide +kernel
theorem dX2_readItem_57 : decode cX2_readItem 57 = .ok (.aload_n 1, 1) := by decide +kernel
theorem dX2_readItem_58 : decode cX2_readItem 58 = .ok (.getfield 71, 3) := by decide +kernel
theorem dX2_readItem_61 : decode cX2_readItem 61 = .ok (.iconst 5, 1) := by decide +kernel
theorem dX2_readItem_62 : decode cX2_readItem 62 = .ok (.if_icmp .ge 15, 3) := by decide +kernel
theorem dX2_readItem_65 : decode cX2_readItem 65 = .ok (.aload_n 0, 1) := by decide +kernel
theorem dX2_readItem_66 : decode cX2_readItem 66 = .ok (.aload_n 1, 1) := by decide +kernel
theorem dX2_readItem_67 : decode cX2_readItem 67 = .ok (.invokevirtual 74, 3) := by decide +kernel
theorem dX2_readItem_70 : decode cX2_readItem 70 = .ok (.ifCond .eq 7, 3) := by decide +kernel
theorem dX2_readItem_73 : decode cX2_readItem 73 = .ok (.iconst 1, 1) := by decide +kernel
theorem dX2_readItem_74 : decode cX2_readItem 74 = .ok (.goto 4, 3) := by decide +kernel
theorem dX2_readItem_77 : decode cX2_readItem 77 = .ok (.iconst 0, 1) := by decide +kernel
theorem dX2_readItem_78 : decode cX2_readItem 78 = .ok (.ireturn, 1) := by decide +kernel
theorem dX2_readItem_79 : decode cX2_readItem 79 = .ok (.aload_n 1, 1) := by decide +kernel
theorem dX2_readItem_80 : decode cX2_readItem 80 = .ok (.getfield 77, 3) := by decide +kernel
theorem dX2_readItem_83 : decode cX2_readItem 83 = .ok (.iconst 3, 1) := by decide +kernel
theorem dX2_readItem_84 : decode cX2_readItem 84 = .ok (.if_icmp .ge 15, 3) := by decide +kernel
theorem dX2_readItem_87 : decode cX2_readItem 87 = .ok (.aload_n 0, 1) := by decide +kernel
theorem dX2_readItem_88 : decode cX2_readItem 88 = .ok (.aload_n 1, 1) := by decide +kernel
theorem dX2_readItem_89 : decode cX2_readItem 89 = .ok (.invokevirtual 80, 3) := by decide +kernel
theorem dX2_readItem_92 : decode cX2_readItem 92 = .ok (.ifCond .eq 7, 3) := by decide +kernel
theorem dX2_readItem_95 : decode cX2_readItem 95 = .ok (.iconst 1, 1) := by decide +kernel
theorem dX2_readItem_96 : decode cX2_readItem 96 = .ok (.goto 4, 3) := by decide +kernel
theorem dX2_readItem_99 : decode cX2_readItem 99 = .ok (.iconst 0, 1) := by decide +kernel
theorem dX2_readItem_100 : decode cX2_readItem 100 = .ok (.ireturn, 1) := by decide +kernel
theorem dX2_readItem_101 : decode cX2_readItem 101 = .ok (.aload_n 1, 1) := by decide +kernel
theorem dX2_readItem_102 : decode cX2_readItem 102 = .ok (.getfield 83, 3) := by decide +kernel
theorem dX2_readItem_105 : decode cX2_readItem 105 = .ok (.bipush 16, 2) := by decide +kernel
theorem dX2_readItem_107 : decode cX2_readItem 107 = .ok (.if_icmp .ge 15, 3) := by decide +kernel
theorem dX2_readItem_110 : decode cX2_readItem 110 = .ok (.aload_n 0, 1) := by decide +kernel
theorem dX2_readItem_111 : decode cX2_readItem 111 = .ok (.aload_n 1, 1) := by decide +kernel
theorem dX2_readItem_112 : decode cX2_readItem 112 = .ok (.invokevirtual 86, 3) := by decide +kernel
theorem dX2_readItem_115 : decode cX2_readItem 115 = .ok (.ifCond .eq 7, 3) := by decide +kernel
theorem dX2_readItem_118 : decode cX2_readItem 118 = .ok (.iconst 1, 1) := by decide +kernel
theorem dX2_readItem_119 : decode cX2_readItem 119 = .ok (.goto 4, 3) := by decide +kernel
theorem dX2_readItem_122 : decode cX2_readItem 122 = .ok (.iconst 0, 1) := by decide +kernel
theorem dX2_readItem_123 : decode cX2_readItem 123 = .ok (.ireturn, 1) := by decide +kernel
theorem dX2_readItem_124 : decode cX2_readItem 124 = .ok (.iconst 0, 1) := by decide +kernel
theorem dX2_readItem_125 : decode cX2_readItem 125 = .ok (.ireturn, 1) := by decide +kernel
theorem dX2_readWall_0 : decode cX2_readWall 0 = .ok (.aload_n 0, 1) := by decide +kernel
theorem dX2_readWall_1 : decode cX2_readWall 1 = .ok (.iconst 1, 1) := by decide +kernel
theorem dX2_readWall_2 : decode cX2_readWall 2 = .ok (.putfield 26, 3) := by decide +kernel
theorem dX2_readWall_5 : decode cX2_readWall 5 = .ok (.aload_n 0, 1) := by decide +kernel
theorem dX2_readWall_6 : decode cX2_readWall 6 = .ok (.bipush 10, 2) := by decide +kernel
theorem dX2_readWall_8 : decode cX2_readWall 8 = .ok (.bipush 40, 2) := by decide +kernel
theorem dX2_readWall_10 : decode cX2_readWall 10 = .ok (.invokevirtual 89, 3) := by decide +kernel
theorem dX2_readWall_13 : decode cX2_readWall 13 = .ok (.ifCond .ne 5, 3) := by decide +kernel
theorem dX2_readWall_16 : decode cX2_readWall 16 = .ok (.iconst 0, 1) := by decide +kernel
theorem dX2_readWall_17 : decode cX2_readWall 17 = .ok (.ireturn, 1) := by decide +kernel
theorem dX2_readWall_18 : decode cX2_readWall 18 = .ok (.aload_n 1, 1) := by decide +kernel
theorem dX2_readWall_19 : decode cX2_readWall 19 = .ok (.aload_n 0, 1) := by decide +kernel
theorem dX2_readWall_20 : decode cX2_readWall 20 = .ok (.getfield 65, 3) := by decide +kernel
theorem dX2_readWall_23 : decode cX2_readWall 23 = .ok (.putfield 93, 3) := by decide +kernel
theorem dX2_readWall_26 : decode cX2_readWall 26 = .ok (.aload_n 0, 1) := by decide +kernel
theorem dX2_readWall_27 : decode cX2_readWall 27 = .ok (.iconst 5, 1) := by decide +kernel
theorem dX2_readWall_28 : decode cX2_readWall 28 = .ok (.bipush 20, 2) := by decide +kernel
theorem dX2_readWall_30 : decode cX2_readWall 30 = .ok (.invokevirtual 89, 3) := by decide +kernel
theorem dX2_readWall_33 : decode cX2_readWall 33 = .ok (.ifCond .ne 5, 3) := by decide +kernel
theorem dX2_readWall_36 : decode cX2_readWall 36 = .ok (.iconst 0, 1) := by decide +kernel
theorem dX2_readWall_37 : decode cX2_readWall 37 = .ok (.ireturn, 1) := by decide +kernel
theorem dX2_readWall_38 : decode cX2_readWall 38 = .ok (.aload_n 1, 1) := by decide +kernel
theorem dX2_readWall_39 : decode cX2_readWall 39 = .ok (.aload_n 0, 1) := by decide +kernel
theorem dX2_readWall_40 : decode cX2_readWall 40 = .ok (.getfield 65, 3) := by decide +kernel
theorem dX2_readWall_43 : decode cX2_readWall 43 = .ok (.putfield 96, 3) := by decide +kernel
theorem dX2_readWall_46 : decode cX2_readWall 46 = .ok (.aload_n 0, 1) := by decide +kernel
theorem dX2_readWall_47 : decode cX2_readWall 47 = .ok (.iconst 0, 1) := by decide +kernel
theorem dX2_readWall_48 : decode cX2_readWall 48 = .ok (.bipush 9, 2) := by decide +kernel
theorem dX2_readWall_50 : decode cX2_readWall 50 = .ok (.invokevirtual 89, 3) := by decide +kernel
theorem dX2_readWall_53 : decode cX2_readWall 53 = .ok (.ifCond .ne 5, 3) := by decide +kernel
theorem dX2_readWall_56 : decode cX2_readWall 56 = .ok (.iconst 0, 1) := by decide +kernel
theorem dX2_readWall_57 : decode cX2_readWall 57 = .ok (.ireturn, 1) := by decide +kernel
theorem dX2_readWall_58 : decode cX2_readWall 58 = .ok (.aload_n 1, 1) := by decide +kernel
theorem dX2_readWall_59 : decode cX2_readWall 59 = .ok (.aload_n 0, 1) := by decide +kernel
theorem dX2_readWall_60 : decode cX2_readWall 60 = .ok (.getfield 65, 3) := by decide +kernel
theorem dX2_readWall_63 : decode cX2_readWall 63 = .ok (.putfield 99, 3) := by decide +kernel
theorem dX2_readWall_66 : decode cX2_readWall 66 = .ok (.iconst 1, 1) := by decide +kernel
theorem dX2_readWall_67 : decode cX2_readWall 67 = .ok (.ireturn, 1) := by decide +kernel
theorem dX2_readPicture_0 : decode cX2_readPicture 0 = .ok (.aload_n 0, 1) := by decide +kernel
theorem dX2_readPicture_1 : decode cX2_readPicture 1 = .ok (.iconst 1, 1) := by decide +kernel
theorem dX2_readPicture_2 : decode cX2_readPicture 2 = .ok (.bipush 9, 2) := by decide +kernel
theorem dX2_readPicture_4 : decode cX2_readPicture 4 = .ok (.invokevirtual 89, 3) := by decide +kernel
theorem dX2_readPicture_7 : decode cX2_readPicture 7 = .ok (.ifCond .ne 5, 3) := by decide +kernel
theorem dX2_readPicture_10 : decode cX2_readPicture 10 = .ok (.iconst 0, 1) := by decide +kernel
theorem dX2_readPicture_11 : decode cX2_readPicture 11 = .ok (.ireturn, 1) := by decide +kernel
theorem dX2_readPicture_12 : decode cX2_readPicture 12 = .ok (.aload_n 0, 1) := by decide +kernel
theorem dX2_readPicture_13 : decode cX2_readPicture 13 = .ok (.getfield 65, 3) := by decide +kernel
theorem dX2_readPicture_16 : decode cX2_readPicture 16 = .ok (.istore_n 2, 1) := by decide +kernel
theorem dX2_readPicture_17 : decode cX2_readPicture 17 = .ok (.aload_n 0, 1) := by decide +kernel
theorem dX2_readPicture_18 : decode cX2_readPicture 18 = .ok (.iconst 1, 1) := by decide +kernel
theorem dX2_readPicture_19 : decode cX2_readPicture 19 = .ok (.bipush 9, 2) := by decide +kernel
theorem dX2_readPicture_21 : decode cX2_readPicture 21 = .ok (.invokevirtual 89, 3) := by decide +kernel
theorem dX2_readPicture_24 : decode cX2_readPicture 24 = .ok (.ifCond .ne 5, 3) := by decide +kernel
theorem dX2_readPicture_27 : decode cX2_readPicture 27 = .ok (.iconst 0, 1) := by decide +kernel
theorem dX2_readPicture_28 : decode cX2_readPicture 28 = .ok (.ireturn, 1) := by decide +kernel
theorem dX2_readPicture_29 : decode cX2_readPicture 29 = .ok (.aload_n 0, 1) := by decide +kernel
theorem dX2_readPicture_30 : decode cX2_readPicture 30 = .ok (.getfield 65, 3) := by decide +kernel
theorem dX2_readPicture_33 : decode cX2_readPicture 33 = .ok (.istore_n 3, 1) := by decide +kernel
theorem dX2_readPicture_34 : decode cX2_readPicture 34 = .ok (.aload_n 0, 1) := by decide +kernel
theorem dX2_readPicture_35 : decode cX2_readPicture 35 = .ok (.iconst 0, 1) := by decide +kernel
theorem dX2_readPicture_36 : decode cX2_readPicture 36 = .ok (.iload_n 3, 1) := by decide +kernel
theorem dX2_readPicture_37 : decode cX2_readPicture 37 = .ok (.invokevirtual 89, 3) := by decide +kernel
theorem dX2_readPicture_40 : decode cX2_readPicture 40 = .ok (.ifCond .ne 5, 3) := by decide +kernel
theorem dX2_readPicture_43 : decode cX2_readPicture 43 = .ok (.iconst 0, 1) := by decide +kernel
theorem dX2_readPicture_44 : decode cX2_readPicture 44 = .ok (.ireturn, 1) := by decide +kernel
theorem dX2_readPicture_45 : decode cX2_readPicture 45 = .ok (.aload_n 0, 1) := by decide +kernel
theorem dX2_readPicture_46 : decode cX2_readPicture 46 = .ok (.getfield 65, 3) := by decide +kernel
theorem dX2_readPicture_49 : decode cX2_readPicture 49 = .ok (.istore 4, 2) := by decide +kernel
theorem dX2_readPicture_51 : decode cX2_readPicture 51 = .ok (.aload_n 0, 1) := by decide +kernel
theorem dX2_readPicture_52 : decode cX2_readPicture 52 = .ok (.iconst 1, 1) := by decide +kernel
theorem dX2_readPicture_53 : decode cX2_readPicture 53 = .ok (.bipush 9, 2) := by decide +kernel
theorem dX2_readPicture_55 : decode cX2_readPicture 55 = .ok (.invokevirtual 89, 3) := by decide +kernel
theorem dX2_readPicture_58 : decode cX2_readPicture 58 = .ok (.ifCond .ne 5, 3) := by decide +kernel
theorem dX2_readPicture_61 : decode cX2_readPicture 61 = .ok (.iconst 0, 1) := by decide +kernel
theorem dX2_readPicture_62 : decode cX2_readPicture 62 = .ok (.ireturn, 1) := by decide +kernel
theorem dX2_readPicture_63 : decode cX2_readPicture 63 = .ok (.aload_n 1, 1) := by decide +kernel
theorem dX2_readPicture_64 : decode cX2_readPicture 64 = .ok (.iload_n 2, 1) := by decide +kernel
theorem dX2_readPicture_65 : decode cX2_readPicture 65 = .ok (.iload_n 3, 1) := by decide +kernel
theorem dX2_readPicture_66 : decode cX2_readPicture 66 = .ok (.iload 4, 2) := by decide +kernel
theorem dX2_readPicture_68 : decode cX2_readPicture 68 = .ok (.aload_n 0, 1) := by decide +kernel
theorem dX2_readPicture_69 : decode cX2_readPicture 69 = .ok (.getfield 65, 3) := by decide +kernel
theorem dX2_readPicture_72 : decode cX2_readPicture 72 = .ok (.invokevirtual 102, 3) := by decide +kernel
theorem dX2_readPicture_75 : decode cX2_readPicture 75 = .ok (.iconst 1, 1) := by decide +kernel
theorem dX2_readPicture_76 : decode cX2_readPicture 76 = .ok (.ireturn, 1) := by decide +kernel
theorem dX2_readDoor_0 : decode cX2_readDoor 0 = .ok (.aload_n 0, 1) := by decide +kernel
theorem dX2_readDoor_1 : decode cX2_readDoor 1 = .ok (.iconst 0, 1) := by decide +kernel
theorem dX2_readDoor_2 : decode cX2_readDoor 2 = .ok (.bipush 39, 2) := by decide +kernel
theorem dX2_readDoor_4 : decode cX2_readDoor 4 = .ok (.invokevirtual 89, 3) := by decide +kernel
theorem dX2_readDoor_7 : decode cX2_readDoor 7 = .ok (.ifCond .ne 5, 3) := by decide +kernel
theorem dX2_readDoor_10 : decode cX2_readDoor 10 = .ok (.iconst 0, 1) := by decide +kernel
theorem dX2_readDoor_11 : decode cX2_readDoor 11 = .ok (.ireturn, 1) := by decide +kernel
theorem dX2_readDoor_12 : decode cX2_readDoor 12 = .ok (.aload_n 0, 1) := by decide +kernel
theorem dX2_readDoor_13 : decode cX2_readDoor 13 = .ok (.getfield 65, 3) := by decide +kernel
theorem dX2_readDoor_16 : decode cX2_readDoor 16 = .ok (.istore_n 2, 1) := by decide +kernel
theorem dX2_readDoor_17 : decode cX2_readDoor 17 = .ok (.aload_n 0, 1) := by decide +kernel
theorem dX2_readDoor_18 : decode cX2_readDoor 18 = .ok (.iload_n 2, 1) := by decide +kernel
theorem dX2_readDoor_19 : decode cX2_readDoor 19 = .ok (.iconst 1, 1) := by decide +kernel
theorem dX2_readDoor_20 : decode cX2_readDoor 20 = .ok (.iadd, 1) := by decide +kernel
theorem dX2_readDoor_21 : decode cX2_readDoor 21 = .ok (.bipush 40, 2) := by decide +kernel
theorem dX2_readDoor_23 : decode cX2_readDoor 23 = .ok (.invokevirtual 89, 3) := by decide +kernel
theorem dX2_readDoor_26 : decode cX2_readDoor 26 = .ok (.ifCond .ne 5, 3) := by decide +kernel
theorem dX2_readDoor_29 : decode cX2_readDoor 29 = .ok (.iconst 0, 1) := by decide +kernel
theorem dX2_readDoor_30 : decode cX2_readDoor 30 = .ok (.ireturn, 1) := by decide +kernel
theorem dX2_readDoor_31 : decode cX2_readDoor 31 = .ok (.aload_n 1, 1) := by decide +kernel
theorem dX2_readDoor_32 : decode cX2_readDoor 32 = .ok (.iload_n 2, 1) := by decide +kernel
theorem dX2_readDoor_33 : decode cX2_readDoor 33 = .ok (.aload_n 0, 1) := by decide +kernel
theorem dX2_readDoor_34 : decode cX2_readDoor 34 = .ok (.getfield 65, 3) := by decide +kernel
theorem dX2_readDoor_37 : decode cX2_readDoor 37 = .ok (.invokevirtual 106, 3) := by decide +kernel
theorem dX2_readDoor_40 : decode cX2_readDoor 40 = .ok (.iconst 1, 1) := by decide +kernel
theorem dX2_readDoor_41 : decode cX2_readDoor 41 = .ok (.ireturn, 1) := by decide +kernel
theorem dX2_readHole_0 : decode cX2_readHole 0 = .ok (.aload_n 0, 1) := by decide +kernel
theorem dX2_readHole_1 : decode cX2_readHole 1 = .ok (.iconst 0, 1) := by decide +kernel
theorem dX2_readHole_2 : decode cX2_readHole 2 = .ok (.bipush 80, 2) := by decide +kernel
theorem dX2_readHole_4 : decode cX2_readHole 4 = .ok (.invokevirtual 89, 3) := by decide +kernel
theorem dX2_readHole_7 : decode cX2_readHole 7 = .ok (.ifCond .ne 5, 3) := by decide +kernel
theorem dX2_readHole_10 : decode cX2_readHole 10 = .ok (.iconst 0, 1) := by decide +kernel
theorem dX2_readHole_11 : decode cX2_readHole 11 = .ok (.ireturn, 1) := by decide +kernel
theorem dX2_readHole_12 : decode cX2_readHole 12 = .ok (.aload_n 0, 1) := by decide +kernel
theorem dX2_readHole_13 : decode cX2_readHole 13 = .ok (.getfield 65, 3) := by decide +kernel
theorem dX2_readHole_16 : decode cX2_readHole 16 = .ok (.istore_n 2, 1) := by decide +kernel
theorem dX2_readHole_17 : decode cX2_readHole 17 = .ok (.aload_n 0, 1) := by decide +kernel
theorem dX2_readHole_18 : decode cX2_readHole 18 = .ok (.iconst 0, 1) := by decide +kernel
theorem dX2_readHole_19 : decode cX2_readHole 19 = .ok (.bipush 60, 2) := by decide +kernel
theorem dX2_readHole_21 : decode cX2_readHole 21 = .ok (.invokevirtual 89, 3) := by decide +kernel
theorem dX2_readHole_24 : decode cX2_readHole 24 = .ok (.ifCond .eq 15, 3) := by decide +kernel
theorem dX2_readHole_27 : decode cX2_readHole 27 = .ok (.aload_n 1, 1) := by decide +kernel
theorem dX2_readHole_28 : decode cX2_readHole 28 = .ok (.iload_n 2, 1) := by decide +kernel
theorem dX2_readHole_29 : decode cX2_readHole 29 = .ok (.aload_n 0, 1) := by decide +kernel
theorem dX2_readHole_30 : decode cX2_readHole 30 = .ok (.getfield 65, 3) := by decide +kernel
theorem dX2_readHole_33 : decode cX2_readHole 33 = .ok (.invokevirtual 110, 3) := by decide +kernel
theorem dX2_readHole_36 : decode cX2_readHole 36 = .ok (.ifCond .lt 5, 3) := by decide +kernel
theorem dX2_readHole_39 : decode cX2_readHole 39 = .ok (.iconst 0, 1) := by decide +kernel
theorem dX2_readHole_40 : decode cX2_readHole 40 = .ok (.ireturn, 1) := by decide +kernel
theorem dX2_readHole_41 : decode cX2_readHole 41 = .ok (.aload_n 1, 1) := by decide +kernel
theorem dX2_readHole_42 : decode cX2_readHole 42 = .ok (.iload_n 2, 1) := by decide +kernel
theorem dX2_readHole_43 : decode cX2_readHole 43 = .ok (.aload_n 0, 1) := by decide +kernel
theorem dX2_readHole_44 : decode cX2_readHole 44 = .ok (.getfield 65, 3) := by decide +kernel
theorem dX2_readHole_47 : decode cX2_readHole 47 = .ok (.invokevirtual 114, 3) := by decide +kernel
theorem dX2_readHole_50 : decode cX2_readHole 50 = .ok (.iconst 1, 1) := by decide +kernel
theorem dX2_readHole_51 : decode cX2_readHole 51 = .ok (.ireturn, 1) := by decide +kernel
theorem dX3_init_0 : decode cX3_init 0 = .ok (.aload_n 0, 1) := by decide +kernel
theorem dX3_init_1 : decode cX3_init 1 = .ok (.invokespecial 3, 3) := by decide +kernel
theorem dX3_init_4 : decode cX3_init 4 = .ok (.aload_n 0, 1) := by decide +kernel
theorem dX3_init_5 : decode cX3_init 5 = .ok (.iconst 5, 1) := by decide +kernel
theorem dX3_init_6 : decode cX3_init 6 = .ok (.newarray .long, 2) := by decide +kernel
theorem dX3_init_8 : decode cX3_init 8 = .ok (.putfield 9, 3) := by decide +kernel
theorem dX3_init_11 : decode cX3_init 11 = .ok (.aload_n 0, 1) := by decide +kernel
theorem dX3_init_12 : decode cX3_init 12 = .ok (.iconst 5, 1) := by decide +kernel
theorem dX3_init_13 : decode cX3_init 13 = .ok (.newarray .long, 2) := by decide +kernel
theorem dX3_init_15 : decode cX3_init 15 = .ok (.putfield 15, 3) := by decide +kernel
theorem dX3_init_18 : decode cX3_init 18 = .ok (.aload_n 0, 1) := by decide +kernel
theorem dX3_init_19 : decode cX3_init 19 = .ok (.iconst 5, 1) := by decide +kernel
theorem dX3_init_20 : decode cX3_init 20 = .ok (.newarray .int, 2) := by decide +kernel
theorem dX3_init_22 : decode cX3_init 22 = .ok (.putfield 18, 3) := by decide +kernel
theorem dX3_init_25 : decode cX3_init 25 = .ok (.aload_n 0, 1) := by decide +kernel
theorem dX3_init_26 : decode cX3_init 26 = .ok (.iconst 5, 1) := by decide +kernel
theorem dX3_init_27 : decode cX3_init 27 = .ok (.newarray .int, 2) := by decide +kernel
theorem dX3_init_29 : decode cX3_init 29 = .ok (.putfield 22, 3) := by decide +kernel
theorem dX3_init_32 : decode cX3_init 32 = .ok (.return_, 1) := by decide +kernel
theorem dX3_answer_0 : decode cX3_answer 0 = .ok (.aload_n 0, 1) := by decide +kernel
theorem dX3_answer_1 : decode cX3_answer 1 = .ok (.getfield 25, 3) := by decide +kernel
theorem dX3_answer_4 : decode cX3_answer 4 = .ok (.ifCond .ne 6, 3) := by decide +kernel
theorem dX3_answer_7 : decode cX3_answer 7 = .ok (.bipush (-9), 2) := by decide +kernel
theorem dX3_answer_9 : decode cX3_answer 9 = .ok (.ireturn, 1) := by decide +kernel
theorem dX3_answer_10 : decode cX3_answer 10 = .ok (.iload_n 1, 1) := by decide +kernel
theorem dX3_answer_11 : decode cX3_answer 11 = .ok (.tableswitch 49 0 3 #[29, 34, 39, 44], 29) := by decide +kernel
theorem dX3_answer_40 : decode cX3_answer 40 = .ok (.aload_n 0, 1) := by decide +kernel
theorem dX3_answer_41 : decode cX3_answer 41 = .ok (.getfield 29, 3) := by decide +kernel
theorem dX3_answer_44 : decode cX3_answer 44 = .ok (.ireturn, 1) := by decide +kernel
theorem dX3_answer_45 : decode cX3_answer 45 = .ok (.aload_n 0, 1) := by decide +kernel
theorem dX3_answer_46 : decode cX3_answer 46 = .ok (.getfield 33, 3) := by decide +kernel
theorem dX3_answer_49 : decode cX3_answer 49 = .ok (.ireturn, 1) := by decide +kernel
theorem dX3_answer_50 : decode cX3_answer 50 = .ok (.aload_n 0, 1) := by decide +kernel
theorem dX3_answer_51 : decode cX3_answer 51 = .ok (.getfield 36, 3) := by decide +kernel
theorem dX3_answer_54 : decode cX3_answer 54 = .ok (.ireturn, 1) := by decide +kernel
theorem dX3_answer_55 : decode cX3_answer 55 = .ok (.aload_n 0, 1) := by decide +kernel
theorem dX3_answer_56 : decode cX3_answer 56 = .ok (.getfield 39, 3) := by decide +kernel
theorem dX3_answer_59 : decode cX3_answer 59 = .ok (.ireturn, 1) := by decide +kernel
theorem dX3_answer_60 : decode cX3_answer 60 = .ok (.aload_n 0, 1) := by decide +kernel
theorem dX3_answer_61 : decode cX3_answer 61 = .ok (.iload_n 1, 1) := by decide +kernel
theorem dX3_answer_62 : decode cX3_answer 62 = .ok (.iconst 4, 1) := by decide +kernel
theorem dX3_answer_63 : decode cX3_answer 63 = .ok (.isub, 1) := by decide +kernel
theorem dX3_answer_64 : decode cX3_answer 64 = .ok (.invokevirtual 42, 3) := by decide +kernel
theorem dX3_answer_67 : decode cX3_answer 67 = .ok (.ireturn, 1) := by decide +kernel
theorem dX3_pictureAt_0 : decode cX3_pictureAt 0 = .ok (.iload_n 1, 1) := by decide +kernel
theorem dX3_pictureAt_1 : decode cX3_pictureAt 1 = .ok (.ifCond .lt 20, 3) := by decide +kernel
theorem dX3_pictureAt_4 : decode cX3_pictureAt 4 = .ok (.iload_n 1, 1) := by decide +kernel
theorem dX3_pictureAt_5 : decode cX3_pictureAt 5 = .ok (.aload_n 0, 1) := by decide +kernel
theorem dX3_pictureAt_6 : decode cX3_pictureAt 6 = .ok (.getfield 46, 3) := by decide +kernel
theorem dX3_pictureAt_9 : decode cX3_pictureAt 9 = .ok (.if_icmp .ge 12, 3) := by decide +kernel
theorem dX3_pictureAt_12 : decode cX3_pictureAt 12 = .ok (.aload_n 0, 1) := by decide +kernel
theorem dX3_pictureAt_13 : decode cX3_pictureAt 13 = .ok (.getfield 22, 3) := by decide +kernel
theorem dX3_pictureAt_16 : decode cX3_pictureAt 16 = .ok (.iload_n 1, 1) := by decide +kernel
theorem dX3_pictureAt_17 : decode cX3_pictureAt 17 = .ok (.iaload, 1) := by decide +kernel
theorem dX3_pictureAt_18 : decode cX3_pictureAt 18 = .ok (.goto 5, 3) := by decide +kernel
theorem dX3_pictureAt_21 : decode cX3_pictureAt 21 = .ok (.bipush (-9), 2) := by decide +kernel
theorem dX3_pictureAt_23 : decode cX3_pictureAt 23 = .ok (.ireturn, 1) := by decide +kernel
theorem dX3_search_0 : decode cX3_search 0 = .ok (.aload_n 0, 1) := by decide +kernel
theorem dX3_search_1 : decode cX3_search 1 = .ok (.iconst 0, 1) := by decide +kernel
theorem dX3_search_2 : decode cX3_search 2 = .ok (.putfield 25, 3) := by decide +kernel
theorem dX3_search_5 : decode cX3_search 5 = .ok (.aload_n 0, 1) := by decide +kernel
theorem dX3_search_6 : decode cX3_search 6 = .ok (.aload_n 1, 1) := by decide +kernel
theorem dX3_search_7 : decode cX3_search 7 = .ok (.getfield 49, 3) := by decide +kernel
theorem dX3_search_10 : decode cX3_search 10 = .ok (.putfield 46, 3) := by decide +kernel
theorem dX3_search_13 : decode cX3_search 13 = .ok (.aload_n 0, 1) := by decide +kernel
theorem dX3_search_14 : decode cX3_search 14 = .ok (.iconst 0, 1) := by decide +kernel
theorem dX3_search_15 : decode cX3_search 15 = .ok (.putfield 54, 3) := by decide +kernel
theorem dX3_search_18 : decode cX3_search 18 = .ok (.aload_n 0, 1) := by decide +kernel
theorem dX3_search_19 : decode cX3_search 19 = .ok (.iconst 0, 1) := by decide +kernel
theorem dX3_search_20 : decode cX3_search 20 = .ok (.putfield 57, 3) := by decide +kernel
theorem dX3_search_23 : decode cX3_search 23 = .ok (.aload_n 1, 1) := by decide +kernel
theorem dX3_search_24 : decode cX3_search 24 = .ok (.getfield 60, 3) := by decide +kernel
theorem dX3_search_27 : decode cX3_search 27 = .ok (.istore_n 2, 1) := by decide +kernel
theorem dX3_search_28 : decode cX3_search 28 = .ok (.iconst 0, 1) := by decide +kernel
theorem dX3_search_29 : decode cX3_search 29 = .ok (.istore_n 3, 1) := by decide +kernel
theorem dX3_search_30 : decode cX3_search 30 = .ok (.iload_n 3, 1) := by decide +kernel
theorem dX3_search_31 : decode cX3_search 31 = .ok (.aload_n 0, 1) := by decide +kernel
theorem dX3_search_32 : decode cX3_search 32 = .ok (.getfield 46, 3) := by decide +kernel
theorem dX3_search_35 : decode cX3_search 35 = .ok (.if_icmp .ge 66, 3) := by decide +kernel
theorem dX3_search_38 : decode cX3_search 38 = .ok (.aload_n 0, 1) := by decide +kernel
theorem dX3_search_39 : decode cX3_search 39 = .ok (.aload_n 1, 1) := by decide +kernel
theorem dX3_search_40 : decode cX3_search 40 = .ok (.iload_n 3, 1) := by decide +kernel
theorem dX3_search_41 : decode cX3_search 41 = .ok (.invokevirtual 63, 3) := by decide +kernel
theorem dX3_search_44 : decode cX3_search 44 = .ok (.iload_n 2, 1) := by decide +kernel
theorem dX3_search_45 : decode cX3_search 45 = .ok (.aload_n 1, 1) := by decide +kernel
theorem dX3_search_46 : decode cX3_search 46 = .ok (.getfield 67, 3) := by decide +kernel
theorem dX3_search_49 : decode cX3_search 49 = .ok (.iload_n 3, 1) := by decide +kernel
theorem dX3_search_50 : decode cX3_search 50 = .ok (.iaload, 1) := by decide +kernel
theorem dX3_search_51 : decode cX3_search 51 = .ok (.isub, 1) := by decide +kernel
theorem dX3_search_52 : decode cX3_search 52 = .ok (.istore_n 2, 1) := by decide +kernel
theorem dX3_search_53 : decode cX3_search 53 = .ok (.aload_n 0, 1) := by decide +kernel
theorem dX3_search_54 : decode cX3_search 54 = .ok (.dup, 1) := by decide +kernel
theorem dX3_search_55 : decode cX3_search 55 = .ok (.getfield 54, 3) := by decide +kernel
theorem dX3_search_58 : decode cX3_search 58 = .ok (.aload_n 0, 1) := by decide +kernel
theorem dX3_search_59 : decode cX3_search 59 = .ok (.getfield 15, 3) := by decide +kernel
theorem dX3_search_62 : decode cX3_search 62 = .ok (.iload_n 3, 1) := by decide +kernel
theorem dX3_search_63 : decode cX3_search 63 = .ok (.laload, 1) := by decide +kernel
theorem dX3_search_64 : decode cX3_search 64 = .ok (.lconst 0, 1) := by decide +kernel
theorem dX3_search_65 : decode cX3_search 65 = .ok (.lcmp, 1) := by decide +kernel
theorem dX3_search_66 : decode cX3_search 66 = .ok (.ifCond .ne 7, 3) := by decide +kernel
theorem dX3_search_69 : decode cX3_search 69 = .ok (.iconst 1, 1) := by decide +kernel
theorem dX3_search_70 : decode cX3_search 70 = .ok (.goto 4, 3) := by decide +kernel
theorem dX3_search_73 : decode cX3_search 73 = .ok (.iconst 0, 1) := by decide +kernel
theorem dX3_search_74 : decode cX3_search 74 = .ok (.iadd, 1) := by decide +kernel
theorem dX3_search_75 : decode cX3_search 75 = .ok (.putfield 54, 3) := by decide +kernel
theorem dX3_search_78 : decode cX3_search 78 = .ok (.aload_n 0, 1) := by decide +kernel
theorem dX3_search_79 : decode cX3_search 79 = .ok (.dup, 1) := by decide +kernel
theorem dX3_search_80 : decode cX3_search 80 = .ok (.getfield 57, 3) := by decide +kernel
theorem dX3_search_83 : decode cX3_search 83 = .ok (.aload_n 1, 1) := by decide +kernel
theorem dX3_search_84 : decode cX3_search 84 = .ok (.iload_n 3, 1) := by decide +kernel
theorem dX3_search_85 : decode cX3_search 85 = .ok (.iconst 0, 1) := by decide +kernel
theorem dX3_search_86 : decode cX3_search 86 = .ok (.invokevirtual 70, 3) := by decide +kernel
theorem dX3_search_89 : decode cX3_search 89 = .ok (.iconst 1, 1) := by decide +kernel
theorem dX3_search_90 : decode cX3_search 90 = .ok (.iand, 1) := by decide +kernel
theorem dX3_search_91 : decode cX3_search 91 = .ok (.ixor, 1) := by decide +kernel
theorem dX3_search_92 : decode cX3_search 92 = .ok (.putfield 57, 3) := by decide +kernel
theorem dX3_search_95 : decode cX3_search 95 = .ok (.iinc 3 1, 3) := by decide +kernel
theorem dX3_search_98 : decode cX3_search 98 = .ok (.goto (-68), 3) := by decide +kernel
theorem dX3_search_101 : decode cX3_search 101 = .ok (.aload_n 0, 1) := by decide +kernel
theorem dX3_search_102 : decode cX3_search 102 = .ok (.getfield 46, 3) := by decide +kernel
theorem dX3_search_105 : decode cX3_search 105 = .ok (.ifCond .le 9, 3) := by decide +kernel
theorem dX3_search_108 : decode cX3_search 108 = .ok (.aload_n 0, 1) := by decide +kernel
theorem dX3_search_109 : decode cX3_search 109 = .ok (.aload_n 1, 1) := by decide +kernel
theorem dX3_search_110 : decode cX3_search 110 = .ok (.iload_n 2, 1) := by decide +kernel
theorem dX3_search_111 : decode cX3_search 111 = .ok (.invokevirtual 74, 3) := by decide +kernel
theorem dX3_search_114 : decode cX3_search 114 = .ok (.return_, 1) := by decide +kernel
theorem dX3_markPlaces_0 : decode cX3_markPlaces 0 = .ok (.aload_n 1, 1) := by decide +kernel
theorem dX3_markPlaces_1 : decode cX3_markPlaces 1 = .ok (.iload_n 2, 1) := by decide +kernel
theorem dX3_markPlaces_2 : decode cX3_markPlaces 2 = .ok (.invokevirtual 77, 3) := by decide +kernel
theorem dX3_markPlaces_5 : decode cX3_markPlaces 5 = .ok (.ifCond .ne 4, 3) := by decide +kernel
theorem dX3_markPlaces_8 : decode cX3_markPlaces 8 = .ok (.return_, 1) := by decide +kernel
theorem dX3_markPlaces_9 : decode cX3_markPlaces 9 = .ok (.aload_n 0, 1) := by decide +kernel
theorem dX3_markPlaces_10 : decode cX3_markPlaces 10 = .ok (.getfield 9, 3) := by decide +kernel
theorem dX3_markPlaces_13 : decode cX3_markPlaces 13 = .ok (.iload_n 2, 1) := by decide +kernel
theorem dX3_markPlaces_14 : decode cX3_markPlaces 14 = .ok (.lconst 0, 1) := by decide +kernel
theorem dX3_markPlaces_15 : decode cX3_markPlaces 15 = .ok (.lastore, 1) := by decide +kernel
theorem dX3_markPlaces_16 : decode cX3_markPlaces 16 = .ok (.aload_n 0, 1) := by decide +kernel
theorem dX3_markPlaces_17 : decode cX3_markPlaces 17 = .ok (.getfield 15, 3) := by decide +kernel
theorem dX3_markPlaces_20 : decode cX3_markPlaces 20 = .ok (.iload_n 2, 1) := by decide +kernel
theorem dX3_markPlaces_21 : decode cX3_markPlaces 21 = .ok (.lconst 0, 1) := by decide +kernel
theorem dX3_markPlaces_22 : decode cX3_markPlaces 22 = .ok (.lastore, 1) := by decide +kernel
theorem dX3_markPlaces_23 : decode cX3_markPlaces 23 = .ok (.iconst 0, 1) := by decide +kernel
theorem dX3_markPlaces_24 : decode cX3_markPlaces 24 = .ok (.istore_n 3, 1) := by decide +kernel
theorem dX3_markPlaces_25 : decode cX3_markPlaces 25 = .ok (.iload_n 3, 1) := by decide +kernel
theorem dX3_markPlaces_26 : decode cX3_markPlaces 26 = .ok (.aload_n 1, 1) := by decide +kernel
theorem dX3_markPlaces_27 : decode cX3_markPlaces 27 = .ok (.getfield 60, 3) := by decide +kernel
theorem dX3_markPlaces_30 : decode cX3_markPlaces 30 = .ok (.if_icmp .ge 51, 3) := by decide +kernel
theorem dX3_markPlaces_33 : decode cX3_markPlaces 33 = .ok (.aload_n 1, 1) := by decide +kernel
theorem dX3_markPlaces_34 : decode cX3_markPlaces 34 = .ok (.iload_n 2, 1) := by decide +kernel
theorem dX3_markPlaces_35 : decode cX3_markPlaces 35 = .ok (.iload_n 3, 1) := by decide +kernel
theorem dX3_markPlaces_36 : decode cX3_markPlaces 36 = .ok (.invokevirtual 81, 3) := by decide +kernel
theorem dX3_markPlaces_39 : decode cX3_markPlaces 39 = .ok (.ifCond .eq 36, 3) := by decide +kernel
theorem dX3_markPlaces_42 : decode cX3_markPlaces 42 = .ok (.aload_n 0, 1) := by decide +kernel
theorem dX3_markPlaces_43 : decode cX3_markPlaces 43 = .ok (.getfield 9, 3) := by decide +kernel
theorem dX3_markPlaces_46 : decode cX3_markPlaces 46 = .ok (.iload_n 2, 1) := by decide +kernel
theorem dX3_markPlaces_47 : decode cX3_markPlaces 47 = .ok (.dup2, 1) := by decide +kernel
theorem dX3_markPlaces_48 : decode cX3_markPlaces 48 = .ok (.laload, 1) := by decide +kernel
theorem dX3_markPlaces_49 : decode cX3_markPlaces 49 = .ok (.lconst 1, 1) := by decide +kernel
theorem dX3_markPlaces_50 : decode cX3_markPlaces 50 = .ok (.iload_n 3, 1) := by decide +kernel
theorem dX3_markPlaces_51 : decode cX3_markPlaces 51 = .ok (.lshl, 1) := by decide +kernel
theorem dX3_markPlaces_52 : decode cX3_markPlaces 52 = .ok (.lor, 1) := by decide +kernel
theorem dX3_markPlaces_53 : decode cX3_markPlaces 53 = .ok (.lastore, 1) := by decide +kernel
theorem dX3_markPlaces_54 : decode cX3_markPlaces 54 = .ok (.aload_n 1, 1) := by decide +kernel
theorem dX3_markPlaces_55 : decode cX3_markPlaces 55 = .ok (.iload_n 2, 1) := by decide +kernel
theorem dX3_markPlaces_56 : decode cX3_markPlaces 56 = .ok (.iload_n 3, 1) := by decide +kernel
theorem dX3_markPlaces_57 : decode cX3_markPlaces 57 = .ok (.invokevirtual 85, 3) := by decide +kernel
theorem dX3_markPlaces_60 : decode cX3_markPlaces 60 = .ok (.ifCond .eq 15, 3) := by decide +kernel
theorem dX3_markPlaces_63 : decode cX3_markPlaces 63 = .ok (.aload_n 0, 1) := by decide +kernel
theorem dX3_markPlaces_64 : decode cX3_markPlaces 64 = .ok (.getfield 15, 3) := by decide +kernel
theorem dX3_markPlaces_67 : decode cX3_markPlaces 67 = .ok (.iload_n 2, 1) := by decide +kernel
theorem dX3_markPlaces_68 : decode cX3_markPlaces 68 = .ok (.dup2, 1) := by decide +kernel
theorem dX3_markPlaces_69 : decode cX3_markPlaces 69 = .ok (.laload, 1) := by decide +kernel
theorem dX3_markPlaces_70 : decode cX3_markPlaces 70 = .ok (.lconst 1, 1) := by decide +kernel
theorem dX3_markPlaces_71 : decode cX3_markPlaces 71 = .ok (.iload_n 3, 1) := by decide +kernel
theorem dX3_markPlaces_72 : decode cX3_markPlaces 72 = .ok (.lshl, 1) := by decide +kernel
theorem dX3_markPlaces_73 : decode cX3_markPlaces 73 = .ok (.lor, 1) := by decide +kernel
theorem dX3_markPlaces_74 : decode cX3_markPlaces 74 = .ok (.lastore, 1) := by decide +kernel
theorem dX3_markPlaces_75 : decode cX3_markPlaces 75 = .ok (.iinc 3 1, 3) := by decide +kernel
theorem dX3_markPlaces_78 : decode cX3_markPlaces 78 = .ok (.goto (-53), 3) := by decide +kernel
theorem dX3_markPlaces_81 : decode cX3_markPlaces 81 = .ok (.return_, 1) := by decide +kernel
theorem dX3_tryAllGaps_0 : decode cX3_tryAllGaps 0 = .ok (.aload_n 1, 1) := by decide +kernel
theorem dX3_tryAllGaps_1 : decode cX3_tryAllGaps 1 = .ok (.getfield 88, 3) := by decide +kernel
theorem dX3_tryAllGaps_4 : decode cX3_tryAllGaps 4 = .ok (.istore_n 3, 1) := by decide +kernel
theorem dX3_tryAllGaps_5 : decode cX3_tryAllGaps 5 = .ok (.iload_n 3, 1) := by decide +kernel
theorem dX3_tryAllGaps_6 : decode cX3_tryAllGaps 6 = .ok (.bipush 20, 2) := by decide +kernel
theorem dX3_tryAllGaps_8 : decode cX3_tryAllGaps 8 = .ok (.if_icmp .gt 85, 3) := by decide +kernel
theorem dX3_tryAllGaps_11 : decode cX3_tryAllGaps 11 = .ok (.iconst 0, 1) := by decide +kernel
theorem dX3_tryAllGaps_12 : decode cX3_tryAllGaps 12 = .ok (.istore 4, 2) := by decide +kernel
theorem dX3_tryAllGaps_14 : decode cX3_tryAllGaps 14 = .ok (.iload 4, 2) := by decide +kernel
theorem dX3_tryAllGaps_16 : decode cX3_tryAllGaps 16 = .ok (.iload_n 2, 1) := by decide +kernel
theorem dX3_tryAllGaps_17 : decode cX3_tryAllGaps 17 = .ok (.iload_n 3, 1) := by decide +kernel
theorem dX3_tryAllGaps_18 : decode cX3_tryAllGaps 18 = .ok (.aload_n 0, 1) := by decide +kernel
theorem dX3_tryAllGaps_19 : decode cX3_tryAllGaps 19 = .ok (.getfield 46, 3) := by decide +kernel
theorem dX3_tryAllGaps_22 : decode cX3_tryAllGaps 22 = .ok (.iconst 1, 1) := by decide +kernel
theorem dX3_tryAllGaps_23 : decode cX3_tryAllGaps 23 = .ok (.isub, 1) := by decide +kernel
theorem dX3_tryAllGaps_24 : decode cX3_tryAllGaps 24 = .ok (.imul, 1) := by decide +kernel
theorem dX3_tryAllGaps_25 : decode cX3_tryAllGaps 25 = .ok (.isub, 1) := by decide +kernel
theorem dX3_tryAllGaps_26 : decode cX3_tryAllGaps 26 = .ok (.if_icmp .gt 61, 3) := by decide +kernel
theorem dX3_tryAllGaps_29 : decode cX3_tryAllGaps 29 = .ok (.aload_n 0, 1) := by decide +kernel
theorem dX3_tryAllGaps_30 : decode cX3_tryAllGaps 30 = .ok (.getfield 25, 3) := by decide +kernel
theorem dX3_tryAllGaps_33 : decode cX3_tryAllGaps 33 = .ok (.ifCond .eq 26, 3) := by decide +kernel
theorem dX3_tryAllGaps_36 : decode cX3_tryAllGaps 36 = .ok (.aload_n 0, 1) := by decide +kernel
theorem dX3_tryAllGaps_37 : decode cX3_tryAllGaps 37 = .ok (.getfield 29, 3) := by decide +kernel
theorem dX3_tryAllGaps_40 : decode cX3_tryAllGaps 40 = .ok (.aload_n 0, 1) := by decide +kernel
theorem dX3_tryAllGaps_41 : decode cX3_tryAllGaps 41 = .ok (.getfield 54, 3) := by decide +kernel
theorem dX3_tryAllGaps_44 : decode cX3_tryAllGaps 44 = .ok (.if_icmp .ne 15, 3) := by decide +kernel
theorem dX3_tryAllGaps_47 : decode cX3_tryAllGaps 47 = .ok (.aload_n 0, 1) := by decide +kernel
theorem dX3_tryAllGaps_48 : decode cX3_tryAllGaps 48 = .ok (.getfield 33, 3) := by decide +kernel
theorem dX3_tryAllGaps_51 : decode cX3_tryAllGaps 51 = .ok (.aload_n 0, 1) := by decide +kernel
theorem dX3_tryAllGaps_52 : decode cX3_tryAllGaps 52 = .ok (.getfield 57, 3) := by decide +kernel
theorem dX3_tryAllGaps_55 : decode cX3_tryAllGaps 55 = .ok (.if_icmp .ne 4, 3) := by decide +kernel
theorem dX3_tryAllGaps_58 : decode cX3_tryAllGaps 58 = .ok (.return_, 1) := by decide +kernel
theorem dX3_tryAllGaps_59 : decode cX3_tryAllGaps 59 = .ok (.aload_n 0, 1) := by decide +kernel
theorem dX3_tryAllGaps_60 : decode cX3_tryAllGaps 60 = .ok (.iload_n 3, 1) := by decide +kernel
theorem dX3_tryAllGaps_61 : decode cX3_tryAllGaps 61 = .ok (.putfield 89, 3) := by decide +kernel
theorem dX3_tryAllGaps_64 : decode cX3_tryAllGaps 64 = .ok (.aload_n 0, 1) := by decide +kernel
theorem dX3_tryAllGaps_65 : decode cX3_tryAllGaps 65 = .ok (.iload 4, 2) := by decide +kernel
theorem dX3_tryAllGaps_67 : decode cX3_tryAllGaps 67 = .ok (.putfield 92, 3) := by decide +kernel
theorem dX3_tryAllGaps_70 : decode cX3_tryAllGaps 70 = .ok (.aload_n 0, 1) := by decide +kernel
theorem dX3_tryAllGaps_71 : decode cX3_tryAllGaps 71 = .ok (.aload_n 1, 1) := by decide +kernel
theorem dX3_tryAllGaps_72 : decode cX3_tryAllGaps 72 = .ok (.iconst 0, 1) := by decide +kernel
theorem dX3_tryAllGaps_73 : decode cX3_tryAllGaps 73 = .ok (.iload 4, 2) := by decide +kernel
theorem dX3_tryAllGaps_75 : decode cX3_tryAllGaps 75 = .ok (.iconst 0, 1) := by decide +kernel
theorem dX3_tryAllGaps_76 : decode cX3_tryAllGaps 76 = .ok (.iconst 0, 1) := by decide +kernel
theorem dX3_tryAllGaps_77 : decode cX3_tryAllGaps 77 = .ok (.iconst 0, 1) := by decide +kernel
theorem dX3_tryAllGaps_78 : decode cX3_tryAllGaps 78 = .ok (.invokestatic 95, 3) := by decide +kernel
theorem dX3_tryAllGaps_81 : decode cX3_tryAllGaps 81 = .ok (.iinc 4 1, 3) := by decide +kernel
theorem dX3_tryAllGaps_84 : decode cX3_tryAllGaps 84 = .ok (.goto (-70), 3) := by decide +kernel
theorem dX3_tryAllGaps_87 : decode cX3_tryAllGaps 87 = .ok (.iinc 3 1, 3) := by decide +kernel
theorem dX3_tryAllGaps_90 : decode cX3_tryAllGaps 90 = .ok (.goto (-85), 3) := by decide +kernel
theorem dX3_tryAllGaps_93 : decode cX3_tryAllGaps 93 = .ok (.return_, 1) := by decide +kernel
theorem dX3_tryOrders_0 : decode cX3_tryOrders 0 = .ok (.aload_n 0, 1) := by decide +kernel
theorem dX3_tryOrders_1 : decode cX3_tryOrders 1 = .ok (.getfield 25, 3) := by decide +kernel
theorem dX3_tryOrders_4 : decode cX3_tryOrders 4 = .ok (.ifCond .eq 13, 3) := by decide +kernel
theorem dX3_tryOrders_7 : decode cX3_tryOrders 7 = .ok (.iload 5, 2) := by decide +kernel
theorem dX3_tryOrders_9 : decode cX3_tryOrders 9 = .ok (.aload_n 0, 1) := by decide +kernel
theorem dX3_tryOrders_10 : decode cX3_tryOrders 10 = .ok (.getfield 29, 3) := by decide +kernel
theorem dX3_tryOrders_13 : decode cX3_tryOrders 13 = .ok (.if_icmp .le 4, 3) := by decide +kernel
theorem dX3_tryOrders_16 : decode cX3_tryOrders 16 = .ok (.return_, 1) := by decide +kernel
theorem dX3_tryOrders_17 : decode cX3_tryOrders 17 = .ok (.iload_n 2, 1) := by decide +kernel
theorem dX3_tryOrders_18 : decode cX3_tryOrders 18 = .ok (.aload_n 0, 1) := by decide +kernel
theorem dX3_tryOrders_19 : decode cX3_tryOrders 19 = .ok (.getfield 46, 3) := by decide +kernel
theorem dX3_tryOrders_22 : decode cX3_tryOrders 22 = .ok (.if_icmp .lt 15, 3) := by decide +kernel
theorem dX3_tryOrders_25 : decode cX3_tryOrders 25 = .ok (.aload_n 0, 1) := by decide +kernel
theorem dX3_tryOrders_26 : decode cX3_tryOrders 26 = .ok (.iload 5, 2) := by decide +kernel
theorem dX3_tryOrders_28 : decode cX3_tryOrders 28 = .ok (.iload 6, 2) := by decide +kernel
theorem dX3_tryOrders_30 : decode cX3_tryOrders 30 = .ok (.invokestatic 99, 3) := by decide +kernel
theorem dX3_tryOrders_33 : decode cX3_tryOrders 33 = .ok (.invokevirtual 104, 3) := by decide +kernel
theorem dX3_tryOrders_36 : decode cX3_tryOrders 36 = .ok (.return_, 1) := by decide +kernel
theorem dX3_tryOrders_37 : decode cX3_tryOrders 37 = .ok (.iconst 0, 1) := by decide +kernel
theorem dX3_tryOrders_38 : decode cX3_tryOrders 38 = .ok (.istore 7, 2) := by decide +kernel
theorem dX3_tryOrders_40 : decode cX3_tryOrders 40 = .ok (.iload 7, 2) := by decide +kernel
theorem dX3_tryOrders_42 : decode cX3_tryOrders 42 = .ok (.aload_n 0, 1) := by decide +kernel
theorem dX3_tryOrders_43 : decode cX3_tryOrders 43 = .ok (.getfield 46, 3) := by decide +kernel
theorem dX3_tryOrders_46 : decode cX3_tryOrders 46 = .ok (.if_icmp .ge 103, 3) := by decide +kernel
theorem dX3_tryOrders_49 : decode cX3_tryOrders 49 = .ok (.iload 4, 2) := by decide +kernel
theorem dX3_tryOrders_51 : decode cX3_tryOrders 51 = .ok (.iconst 1, 1) := by decide +kernel
theorem dX3_tryOrders_52 : decode cX3_tryOrders 52 = .ok (.iload 7, 2) := by decide +kernel
theorem dX3_tryOrders_54 : decode cX3_tryOrders 54 = .ok (.ishl, 1) := by decide +kernel
theorem dX3_tryOrders_55 : decode cX3_tryOrders 55 = .ok (.iand, 1) := by decide +kernel
theorem dX3_tryOrders_56 : decode cX3_tryOrders 56 = .ok (.ifCond .ne 87, 3) := by decide +kernel
theorem dX3_tryOrders_59 : decode cX3_tryOrders 59 = .ok (.aload_n 0, 1) := by decide +kernel
theorem dX3_tryOrders_60 : decode cX3_tryOrders 60 = .ok (.getfield 9, 3) := by decide +kernel
theorem dX3_tryOrders_63 : decode cX3_tryOrders 63 = .ok (.iload 7, 2) := by decide +kernel
theorem dX3_tryOrders_65 : decode cX3_tryOrders 65 = .ok (.laload, 1) := by decide +kernel
theorem dX3_tryOrders_66 : decode cX3_tryOrders 66 = .ok (.iload_n 3, 1) := by decide +kernel
theorem dX3_tryOrders_67 : decode cX3_tryOrders 67 = .ok (.invokestatic 108, 3) := by decide +kernel
theorem dX3_tryOrders_70 : decode cX3_tryOrders 70 = .ok (.ifCond .eq 73, 3) := by decide +kernel
theorem dX3_tryOrders_73 : decode cX3_tryOrders 73 = .ok (.aload_n 0, 1) := by decide +kernel
theorem dX3_tryOrders_74 : decode cX3_tryOrders 74 = .ok (.getfield 18, 3) := by decide +kernel
theorem dX3_tryOrders_77 : decode cX3_tryOrders 77 = .ok (.iload_n 2, 1) := by decide +kernel
theorem dX3_tryOrders_78 : decode cX3_tryOrders 78 = .ok (.iload 7, 2) := by decide +kernel
theorem dX3_tryOrders_80 : decode cX3_tryOrders 80 = .ok (.iastore, 1) := by decide +kernel
theorem dX3_tryOrders_81 : decode cX3_tryOrders 81 = .ok (.aload_n 0, 1) := by decide +kernel
theorem dX3_tryOrders_82 : decode cX3_tryOrders 82 = .ok (.aload_n 1, 1) := by decide +kernel
theorem dX3_tryOrders_83 : decode cX3_tryOrders 83 = .ok (.iload_n 2, 1) := by decide +kernel
theorem dX3_tryOrders_84 : decode cX3_tryOrders 84 = .ok (.iconst 1, 1) := by decide +kernel
theorem dX3_tryOrders_85 : decode cX3_tryOrders 85 = .ok (.iadd, 1) := by decide +kernel
theorem dX3_tryOrders_86 : decode cX3_tryOrders 86 = .ok (.iload_n 3, 1) := by decide +kernel
theorem dX3_tryOrders_87 : decode cX3_tryOrders 87 = .ok (.aload_n 1, 1) := by decide +kernel
theorem dX3_tryOrders_88 : decode cX3_tryOrders 88 = .ok (.getfield 67, 3) := by decide +kernel
theorem dX3_tryOrders_91 : decode cX3_tryOrders 91 = .ok (.iload 7, 2) := by decide +kernel
theorem dX3_tryOrders_93 : decode cX3_tryOrders 93 = .ok (.iaload, 1) := by decide +kernel
theorem dX3_tryOrders_94 : decode cX3_tryOrders 94 = .ok (.iadd, 1) := by decide +kernel
theorem dX3_tryOrders_95 : decode cX3_tryOrders 95 = .ok (.aload_n 0, 1) := by decide +kernel
theorem dX3_tryOrders_96 : decode cX3_tryOrders 96 = .ok (.getfield 89, 3) := by decide +kernel
theorem dX3_tryOrders_99 : decode cX3_tryOrders 99 = .ok (.iadd, 1) := by decide +kernel
theorem dX3_tryOrders_100 : decode cX3_tryOrders 100 = .ok (.iload 4, 2) := by decide +kernel
theorem dX3_tryOrders_102 : decode cX3_tryOrders 102 = .ok (.iconst 1, 1) := by decide +kernel
theorem dX3_tryOrders_103 : decode cX3_tryOrders 103 = .ok (.iload 7, 2) := by decide +kernel
theorem dX3_tryOrders_105 : decode cX3_tryOrders 105 = .ok (.ishl, 1) := by decide +kernel
theorem dX3_tryOrders_106 : decode cX3_tryOrders 106 = .ok (.ior, 1) := by decide +kernel
theorem dX3_tryOrders_107 : decode cX3_tryOrders 107 = .ok (.aload_n 0, 1) := by decide +kernel
theorem dX3_tryOrders_108 : decode cX3_tryOrders 108 = .ok (.getfield 15, 3) := by decide +kernel
theorem dX3_tryOrders_111 : decode cX3_tryOrders 111 = .ok (.iload 7, 2) := by decide +kernel
theorem dX3_tryOrders_113 : decode cX3_tryOrders 113 = .ok (.laload, 1) := by decide +kernel
theorem dX3_tryOrders_114 : decode cX3_tryOrders 114 = .ok (.iload_n 3, 1) := by decide +kernel
theorem dX3_tryOrders_115 : decode cX3_tryOrders 115 = .ok (.invokestatic 108, 3) := by decide +kernel
theorem dX3_tryOrders_118 : decode cX3_tryOrders 118 = .ok (.ifCond .eq 8, 3) := by decide +kernel
theorem dX3_tryOrders_121 : decode cX3_tryOrders 121 = .ok (.iload 5, 2) := by decide +kernel
theorem dX3_tryOrders_123 : decode cX3_tryOrders 123 = .ok (.goto 7, 3) := by decide +kernel
theorem dX3_tryOrders_126 : decode cX3_tryOrders 126 = .ok (.iload 5, 2) := by decide +kernel
theorem dX3_tryOrders_128 : decode cX3_tryOrders 128 = .ok (.iconst 1, 1) := by decide +kernel
theorem dX3_tryOrders_129 : decode cX3_tryOrders 129 = .ok (.iadd, 1) := by decide +kernel
theorem dX3_tryOrders_130 : decode cX3_tryOrders 130 = .ok (.iload 6, 2) := by decide +kernel
theorem dX3_tryOrders_132 : decode cX3_tryOrders 132 = .ok (.aload_n 1, 1) := by decide +kernel
theorem dX3_tryOrders_133 : decode cX3_tryOrders 133 = .ok (.iload 7, 2) := by decide +kernel
theorem dX3_tryOrders_135 : decode cX3_tryOrders 135 = .ok (.iload_n 3, 1) := by decide +kernel
theorem dX3_tryOrders_136 : decode cX3_tryOrders 136 = .ok (.invokevirtual 70, 3) := by decide +kernel
theorem dX3_tryOrders_139 : decode cX3_tryOrders 139 = .ok (.iadd, 1) := by decide +kernel
theorem dX3_tryOrders_140 : decode cX3_tryOrders 140 = .ok (.invokestatic 95, 3) := by decide +kernel
theorem dX3_tryOrders_143 : decode cX3_tryOrders 143 = .ok (.iinc 7 1, 3) := by decide +kernel
theorem dX3_tryOrders_146 : decode cX3_tryOrders 146 = .ok (.goto (-106), 3) := by decide +kernel
theorem dX3_tryOrders_149 : decode cX3_tryOrders 149 = .ok (.return_, 1) := by decide +kernel
theorem dX3_takeIfBetter_0 : decode cX3_takeIfBetter 0 = .ok (.aload_n 0, 1) := by decide +kernel
theorem dX3_takeIfBetter_1 : decode cX3_takeIfBetter 1 = .ok (.getfield 25, 3) := by decide +kernel
theorem dX3_takeIfBetter_4 : decode cX3_takeIfBetter 4 = .ok (.ifCond .eq 27, 3) := by decide +kernel
theorem dX3_takeIfBetter_7 : decode cX3_takeIfBetter 7 = .ok (.iload_n 1, 1) := by decide +kernel
theorem dX3_takeIfBetter_8 : decode cX3_takeIfBetter 8 = .ok (.aload_n 0, 1) := by decide +kernel
theorem dX3_takeIfBetter_9 : decode cX3_takeIfBetter 9 = .ok (.getfield 29, 3) := by decide +kernel
theorem dX3_takeIfBetter_12 : decode cX3_takeIfBetter 12 = .ok (.if_icmp .lt 19, 3) := by decide +kernel
theorem dX3_takeIfBetter_15 : decode cX3_takeIfBetter 15 = .ok (.iload_n 1, 1) := by decide +kernel
theorem dX3_takeIfBetter_16 : decode cX3_takeIfBetter 16 = .ok (.aload_n 0, 1) := by decide +kernel
theorem dX3_takeIfBetter_17 : decode cX3_takeIfBetter 17 = .ok (.getfield 29, 3) := by decide +kernel
theorem dX3_takeIfBetter_20 : decode cX3_takeIfBetter 20 = .ok (.if_icmp .ne 56, 3) := by decide +kernel
theorem dX3_takeIfBetter_23 : decode cX3_takeIfBetter 23 = .ok (.iload_n 2, 1) := by decide +kernel
theorem dX3_takeIfBetter_24 : decode cX3_takeIfBetter 24 = .ok (.aload_n 0, 1) := by decide +kernel
theorem dX3_takeIfBetter_25 : decode cX3_takeIfBetter 25 = .ok (.getfield 33, 3) := by decide +kernel
theorem dX3_takeIfBetter_28 : decode cX3_takeIfBetter 28 = .ok (.if_icmp .ge 48, 3) := by decide +kernel
theorem dX3_takeIfBetter_31 : decode cX3_takeIfBetter 31 = .ok (.aload_n 0, 1) := by decide +kernel
theorem dX3_takeIfBetter_32 : decode cX3_takeIfBetter 32 = .ok (.iconst 1, 1) := by decide +kernel
theorem dX3_takeIfBetter_33 : decode cX3_takeIfBetter 33 = .ok (.putfield 25, 3) := by decide +kernel
theorem dX3_takeIfBetter_36 : decode cX3_takeIfBetter 36 = .ok (.aload_n 0, 1) := by decide +kernel
theorem dX3_takeIfBetter_37 : decode cX3_takeIfBetter 37 = .ok (.iload_n 1, 1) := by decide +kernel
theorem dX3_takeIfBetter_38 : decode cX3_takeIfBetter 38 = .ok (.putfield 29, 3) := by decide +kernel
theorem dX3_takeIfBetter_41 : decode cX3_takeIfBetter 41 = .ok (.aload_n 0, 1) := by decide +kernel
theorem dX3_takeIfBetter_42 : decode cX3_takeIfBetter 42 = .ok (.iload_n 2, 1) := by decide +kernel
theorem dX3_takeIfBetter_43 : decode cX3_takeIfBetter 43 = .ok (.putfield 33, 3) := by decide +kernel
theorem dX3_takeIfBetter_46 : decode cX3_takeIfBetter 46 = .ok (.aload_n 0, 1) := by decide +kernel
theorem dX3_takeIfBetter_47 : decode cX3_takeIfBetter 47 = .ok (.aload_n 0, 1) := by decide +kernel
theorem dX3_takeIfBetter_48 : decode cX3_takeIfBetter 48 = .ok (.getfield 89, 3) := by decide +kernel
theorem dX3_takeIfBetter_51 : decode cX3_takeIfBetter 51 = .ok (.putfield 36, 3) := by decide +kernel
theorem dX3_takeIfBetter_54 : decode cX3_takeIfBetter 54 = .ok (.aload_n 0, 1) := by decide +kernel
theorem dX3_takeIfBetter_55 : decode cX3_takeIfBetter 55 = .ok (.aload_n 0, 1) := by decide +kernel
theorem dX3_takeIfBetter_56 : decode cX3_takeIfBetter 56 = .ok (.getfield 92, 3) := by decide +kernel
theorem dX3_takeIfBetter_59 : decode cX3_takeIfBetter 59 = .ok (.putfield 39, 3) := by decide +kernel
theorem dX3_takeIfBetter_62 : decode cX3_takeIfBetter 62 = .ok (.aload_n 0, 1) := by decide +kernel
theorem dX3_takeIfBetter_63 : decode cX3_takeIfBetter 63 = .ok (.getfield 18, 3) := by decide +kernel
theorem dX3_takeIfBetter_66 : decode cX3_takeIfBetter 66 = .ok (.iconst 0, 1) := by decide +kernel
theorem dX3_takeIfBetter_67 : decode cX3_takeIfBetter 67 = .ok (.aload_n 0, 1) := by decide +kernel
theorem dX3_takeIfBetter_68 : decode cX3_takeIfBetter 68 = .ok (.getfield 22, 3) := by decide +kernel
theorem dX3_takeIfBetter_71 : decode cX3_takeIfBetter 71 = .ok (.iconst 0, 1) := by decide +kernel
theorem dX3_takeIfBetter_72 : decode cX3_takeIfBetter 72 = .ok (.iconst 5, 1) := by decide +kernel
theorem dX3_takeIfBetter_73 : decode cX3_takeIfBetter 73 = .ok (.invokestatic 112, 3) := by decide +kernel
theorem dX3_takeIfBetter_76 : decode cX3_takeIfBetter 76 = .ok (.return_, 1) := by decide +kernel
theorem dX3_isMarked_0 : decode cX3_isMarked 0 = .ok (.iload_n 2, 1) := by decide +kernel
theorem dX3_isMarked_1 : decode cX3_isMarked 1 = .ok (.ifCond .lt 23, 3) := by decide +kernel
theorem dX3_isMarked_4 : decode cX3_isMarked 4 = .ok (.iload_n 2, 1) := by decide +kernel
theorem dX3_isMarked_5 : decode cX3_isMarked 5 = .ok (.bipush 40, 2) := by decide +kernel
theorem dX3_isMarked_7 : decode cX3_isMarked 7 = .ok (.if_icmp .ge 17, 3) := by decide +kernel
theorem dX3_isMarked_10 : decode cX3_isMarked 10 = .ok (.lload_n 0, 1) := by decide +kernel
theorem dX3_isMarked_11 : decode cX3_isMarked 11 = .ok (.iload_n 2, 1) := by decide +kernel
theorem dX3_isMarked_12 : decode cX3_isMarked 12 = .ok (.lushr, 1) := by decide +kernel
theorem dX3_isMarked_13 : decode cX3_isMarked 13 = .ok (.lconst 1, 1) := by decide +kernel
theorem dX3_isMarked_14 : decode cX3_isMarked 14 = .ok (.land, 1) := by decide +kernel
theorem dX3_isMarked_15 : decode cX3_isMarked 15 = .ok (.lconst 0, 1) := by decide +kernel
theorem dX3_isMarked_16 : decode cX3_isMarked 16 = .ok (.lcmp, 1) := by decide +kernel
theorem dX3_isMarked_17 : decode cX3_isMarked 17 = .ok (.ifCond .eq 7, 3) := by decide +kernel
theorem dX3_isMarked_20 : decode cX3_isMarked 20 = .ok (.iconst 1, 1) := by decide +kernel
theorem dX3_isMarked_21 : decode cX3_isMarked 21 = .ok (.goto 4, 3) := by decide +kernel
theorem dX3_isMarked_24 : decode cX3_isMarked 24 = .ok (.iconst 0, 1) := by decide +kernel
theorem dX3_isMarked_25 : decode cX3_isMarked 25 = .ok (.ireturn, 1) := by decide +kernel
theorem dX4_init_0 : decode cX4_init 0 = .ok (.aload_n 0, 1) := by decide +kernel
theorem dX4_init_1 : decode cX4_init 1 = .ok (.invokespecial 3, 3) := by decide +kernel
theorem dX4_init_4 : decode cX4_init 4 = .ok (.aload_n 0, 1) := by decide +kernel
theorem dX4_init_5 : decode cX4_init 5 = .ok (.bipush 6, 2) := by decide +kernel
theorem dX4_init_7 : decode cX4_init 7 = .ok (.newarray .int, 2) := by decide +kernel
theorem dX4_init_9 : decode cX4_init 9 = .ok (.putfield 9, 3) := by decide +kernel
theorem dX4_init_12 : decode cX4_init 12 = .ok (.aload_n 0, 1) := by decide +kernel
theorem dX4_init_13 : decode cX4_init 13 = .ok (.bipush 6, 2) := by decide +kernel
theorem dX4_init_15 : decode cX4_init 15 = .ok (.newarray .int, 2) := by decide +kernel
theorem dX4_init_17 : decode cX4_init 17 = .ok (.putfield 15, 3) := by decide +kernel
theorem dX4_init_20 : decode cX4_init 20 = .ok (.return_, 1) := by decide +kernel
theorem dX4_add_0 : decode cX4_add 0 = .ok (.aload_n 0, 1) := by decide +kernel
theorem dX4_add_1 : decode cX4_add 1 = .ok (.getfield 18, 3) := by decide +kernel
theorem dX4_add_4 : decode cX4_add 4 = .ok (.bipush 6, 2) := by decide +kernel
theorem dX4_add_6 : decode cX4_add 6 = .ok (.if_icmp .ge 33, 3) := by decide +kernel
theorem dX4_add_9 : decode cX4_add 9 = .ok (.aload_n 0, 1) := by decide +kernel
theorem dX4_add_10 : decode cX4_add 10 = .ok (.getfield 9, 3) := by decide +kernel
theorem dX4_add_13 : decode cX4_add 13 = .ok (.aload_n 0, 1) := by decide +kernel
theorem dX4_add_14 : decode cX4_add 14 = .ok (.getfield 18, 3) := by decide +kernel
theorem dX4_add_17 : decode cX4_add 17 = .ok (.iload_n 1, 1) := by decide +kernel
theorem dX4_add_18 : decode cX4_add 18 = .ok (.iastore, 1) := by decide +kernel
theorem dX4_add_19 : decode cX4_add 19 = .ok (.aload_n 0, 1) := by decide +kernel
theorem dX4_add_20 : decode cX4_add 20 = .ok (.getfield 15, 3) := by decide +kernel
theorem dX4_add_23 : decode cX4_add 23 = .ok (.aload_n 0, 1) := by decide +kernel
theorem dX4_add_24 : decode cX4_add 24 = .ok (.getfield 18, 3) := by decide +kernel
theorem dX4_add_27 : decode cX4_add 27 = .ok (.iload_n 2, 1) := by decide +kernel
theorem dX4_add_28 : decode cX4_add 28 = .ok (.iastore, 1) := by decide +kernel
theorem dX4_add_29 : decode cX4_add 29 = .ok (.aload_n 0, 1) := by decide +kernel
theorem dX4_add_30 : decode cX4_add 30 = .ok (.dup, 1) := by decide +kernel
theorem dX4_add_31 : decode cX4_add 31 = .ok (.getfield 18, 3) := by decide +kernel
theorem dX4_add_34 : decode cX4_add 34 = .ok (.iconst 1, 1) := by decide +kernel
theorem dX4_add_35 : decode cX4_add 35 = .ok (.iadd, 1) := by decide +kernel
theorem dX4_add_36 : decode cX4_add 36 = .ok (.putfield 18, 3) := by decide +kernel
theorem dX4_add_39 : decode cX4_add 39 = .ok (.return_, 1) := by decide +kernel
theorem dX4_countMatches_0 : decode cX4_countMatches 0 = .ok (.iconst 0, 1) := by decide +kernel
theorem dX4_countMatches_1 : decode cX4_countMatches 1 = .ok (.istore_n 2, 1) := by decide +kernel
theorem dX4_countMatches_2 : decode cX4_countMatches 2 = .ok (.iconst 0, 1) := by decide +kernel
theorem dX4_countMatches_3 : decode cX4_countMatches 3 = .ok (.istore_n 3, 1) := by decide +kernel
theorem dX4_countMatches_4 : decode cX4_countMatches 4 = .ok (.iload_n 3, 1) := by decide +kernel
theorem dX4_countMatches_5 : decode cX4_countMatches 5 = .ok (.aload_n 1, 1) := by decide +kernel
theorem dX4_countMatches_6 : decode cX4_countMatches 6 = .ok (.getfield 22, 3) := by decide +kernel
theorem dX4_countMatches_9 : decode cX4_countMatches 9 = .ok (.if_icmp .ge 21, 3) := by decide +kernel
theorem dX4_countMatches_12 : decode cX4_countMatches 12 = .ok (.aload_n 0, 1) := by decide +kernel
theorem dX4_countMatches_13 : decode cX4_countMatches 13 = .ok (.aload_n 1, 1) := by decide +kernel
theorem dX4_countMatches_14 : decode cX4_countMatches 14 = .ok (.iload_n 3, 1) := by decide +kernel
theorem dX4_countMatches_15 : decode cX4_countMatches 15 = .ok (.invokevirtual 27, 3) := by decide +kernel
theorem dX4_countMatches_18 : decode cX4_countMatches 18 = .ok (.ifCond .eq 6, 3) := by decide +kernel
theorem dX4_countMatches_21 : decode cX4_countMatches 21 = .ok (.iinc 2 1, 3) := by decide +kernel
theorem dX4_countMatches_24 : decode cX4_countMatches 24 = .ok (.iinc 3 1, 3) := by decide +kernel
theorem dX4_countMatches_27 : decode cX4_countMatches 27 = .ok (.goto (-23), 3) := by decide +kernel
theorem dX4_countMatches_30 : decode cX4_countMatches 30 = .ok (.iload_n 2, 1) := by decide +kernel
theorem dX4_countMatches_31 : decode cX4_countMatches 31 = .ok (.ireturn, 1) := by decide +kernel
theorem dX4_leastMatch_0 : decode cX4_leastMatch 0 = .ok (.iconst 0, 1) := by decide +kernel
theorem dX4_leastMatch_1 : decode cX4_leastMatch 1 = .ok (.istore_n 2, 1) := by decide +kernel
theorem dX4_leastMatch_2 : decode cX4_leastMatch 2 = .ok (.iload_n 2, 1) := by decide +kernel
theorem dX4_leastMatch_3 : decode cX4_leastMatch 3 = .ok (.aload_n 1, 1) := by decide +kernel
theorem dX4_leastMatch_4 : decode cX4_leastMatch 4 = .ok (.getfield 22, 3) := by decide +kernel
theorem dX4_leastMatch_7 : decode cX4_leastMatch 7 = .ok (.if_icmp .ge 20, 3) := by decide +kernel
theorem dX4_leastMatch_10 : decode cX4_leastMatch 10 = .ok (.aload_n 0, 1) := by decide +kernel
theorem dX4_leastMatch_11 : decode cX4_leastMatch 11 = .ok (.aload_n 1, 1) := by decide +kernel
theorem dX4_leastMatch_12 : decode cX4_leastMatch 12 = .ok (.iload_n 2, 1) := by decide +kernel
theorem dX4_leastMatch_13 : decode cX4_leastMatch 13 = .ok (.invokevirtual 27, 3) := by decide +kernel
theorem dX4_leastMatch_16 : decode cX4_leastMatch 16 = .ok (.ifCond .eq 5, 3) := by decide +kernel
theorem dX4_leastMatch_19 : decode cX4_leastMatch 19 = .ok (.iload_n 2, 1) := by decide +kernel
theorem dX4_leastMatch_20 : decode cX4_leastMatch 20 = .ok (.ireturn, 1) := by decide +kernel
theorem dX4_leastMatch_21 : decode cX4_leastMatch 21 = .ok (.iinc 2 1, 3) := by decide +kernel
theorem dX4_leastMatch_24 : decode cX4_leastMatch 24 = .ok (.goto (-22), 3) := by decide +kernel
theorem dX4_leastMatch_27 : decode cX4_leastMatch 27 = .ok (.bipush (-9), 2) := by decide +kernel
theorem dX4_leastMatch_29 : decode cX4_leastMatch 29 = .ok (.ireturn, 1) := by decide +kernel
theorem dX4_matches_0 : decode cX4_matches 0 = .ok (.iconst 0, 1) := by decide +kernel
theorem dX4_matches_1 : decode cX4_matches 1 = .ok (.istore_n 3, 1) := by decide +kernel
theorem dX4_matches_2 : decode cX4_matches 2 = .ok (.iload_n 3, 1) := by decide +kernel
theorem dX4_matches_3 : decode cX4_matches 3 = .ok (.aload_n 0, 1) := by decide +kernel
end
section
theorem dX4_matches_4 : decode cX4_matches 4 = .ok (.getfield 18, 3) := by decide +kernel
theorem dX4_matches_7 : decode cX4_matches 7 = .ok (.if_icmp .ge 31, 3) := by decide +kernel
theorem dX4_matches_10 : decode cX4_matches 10 = .ok (.aload_n 1, 1) := by decide +kernel
theorem dX4_matches_11 : decode cX4_matches 11 = .ok (.iload_n 2, 1) := by decide +kernel
theorem dX4_matches_12 : decode cX4_matches 12 = .ok (.aload_n 0, 1) := by decide +kernel
theorem dX4_matches_13 : decode cX4_matches 13 = .ok (.getfield 9, 3) := by decide +kernel
theorem dX4_matches_16 : decode cX4_matches 16 = .ok (.iload_n 3, 1) := by decide +kernel
theorem dX4_matches_17 : decode cX4_matches 17 = .ok (.iaload, 1) := by decide +kernel
theorem dX4_matches_18 : decode cX4_matches 18 = .ok (.invokestatic 31, 3) := by decide +kernel
theorem dX4_matches_21 : decode cX4_matches 21 = .ok (.aload_n 0, 1) := by decide +kernel
theorem dX4_matches_22 : decode cX4_matches 22 = .ok (.getfield 15, 3) := by decide +kernel
theorem dX4_matches_25 : decode cX4_matches 25 = .ok (.iload_n 3, 1) := by decide +kernel
theorem dX4_matches_26 : decode cX4_matches 26 = .ok (.iaload, 1) := by decide +kernel
theorem dX4_matches_27 : decode cX4_matches 27 = .ok (.if_icmp .eq 5, 3) := by decide +kernel
theorem dX4_matches_30 : decode cX4_matches 30 = .ok (.iconst 0, 1) := by decide +kernel
theorem dX4_matches_31 : decode cX4_matches 31 = .ok (.ireturn, 1) := by decide +kernel
theorem dX4_matches_32 : decode cX4_matches 32 = .ok (.iinc 3 1, 3) := by decide +kernel
theorem dX4_matches_35 : decode cX4_matches 35 = .ok (.goto (-33), 3) := by decide +kernel
theorem dX4_matches_38 : decode cX4_matches 38 = .ok (.iconst 1, 1) := by decide +kernel
theorem dX4_matches_39 : decode cX4_matches 39 = .ok (.ireturn, 1) := by decide +kernel
theorem dX4_measured_0 : decode cX4_measured 0 = .ok (.aload_n 0, 1) := by decide +kernel
theorem dX4_measured_1 : decode cX4_measured 1 = .ok (.iload_n 1, 1) := by decide +kernel
theorem dX4_measured_2 : decode cX4_measured 2 = .ok (.invokevirtual 35, 3) := by decide +kernel
theorem dX4_measured_5 : decode cX4_measured 5 = .ok (.ifCond .ne 6, 3) := by decide +kernel
theorem dX4_measured_8 : decode cX4_measured 8 = .ok (.ldc 39, 2) := by decide +kernel
theorem dX4_measured_10 : decode cX4_measured 10 = .ok (.ireturn, 1) := by decide +kernel
theorem dX4_measured_11 : decode cX4_measured 11 = .ok (.iload_n 2, 1) := by decide +kernel
theorem dX4_measured_12 : decode cX4_measured 12 = .ok (.tableswitch 49 0 2 #[28, 35, 42], 28) := by decide +kernel
theorem dX4_measured_40 : decode cX4_measured 40 = .ok (.aload_n 0, 1) := by decide +kernel
theorem dX4_measured_41 : decode cX4_measured 41 = .ok (.getfield 40, 3) := by decide +kernel
theorem dX4_measured_44 : decode cX4_measured 44 = .ok (.iload_n 1, 1) := by decide +kernel
theorem dX4_measured_45 : decode cX4_measured 45 = .ok (.iaload, 1) := by decide +kernel
theorem dX4_measured_46 : decode cX4_measured 46 = .ok (.ireturn, 1) := by decide +kernel
theorem dX4_measured_47 : decode cX4_measured 47 = .ok (.aload_n 0, 1) := by decide +kernel
theorem dX4_measured_48 : decode cX4_measured 48 = .ok (.getfield 43, 3) := by decide +kernel
theorem dX4_measured_51 : decode cX4_measured 51 = .ok (.iload_n 1, 1) := by decide +kernel
theorem dX4_measured_52 : decode cX4_measured 52 = .ok (.iaload, 1) := by decide +kernel
theorem dX4_measured_53 : decode cX4_measured 53 = .ok (.ireturn, 1) := by decide +kernel
theorem dX4_measured_54 : decode cX4_measured 54 = .ok (.aload_n 0, 1) := by decide +kernel
theorem dX4_measured_55 : decode cX4_measured 55 = .ok (.getfield 46, 3) := by decide +kernel
theorem dX4_measured_58 : decode cX4_measured 58 = .ok (.iload_n 1, 1) := by decide +kernel
theorem dX4_measured_59 : decode cX4_measured 59 = .ok (.iaload, 1) := by decide +kernel
theorem dX4_measured_60 : decode cX4_measured 60 = .ok (.ireturn, 1) := by decide +kernel
theorem dX4_measured_61 : decode cX4_measured 61 = .ok (.aload_n 0, 1) := by decide +kernel
theorem dX4_measured_62 : decode cX4_measured 62 = .ok (.iload_n 1, 1) := by decide +kernel
theorem dX4_measured_63 : decode cX4_measured 63 = .ok (.invokevirtual 49, 3) := by decide +kernel
theorem dX4_measured_66 : decode cX4_measured 66 = .ok (.ireturn, 1) := by decide +kernel
theorem dX5_init_0 : decode cX5_init 0 = .ok (.aload_n 0, 1) := by decide +kernel
theorem dX5_init_1 : decode cX5_init 1 = .ok (.invokespecial 3, 3) := by decide +kernel
theorem dX5_init_4 : decode cX5_init 4 = .ok (.aload_n 0, 1) := by decide +kernel
theorem dX5_init_5 : decode cX5_init 5 = .ok (.bipush 121, 2) := by decide +kernel
theorem dX5_init_7 : decode cX5_init 7 = .ok (.newarray .int, 2) := by decide +kernel
theorem dX5_init_9 : decode cX5_init 9 = .ok (.putfield 11, 3) := by decide +kernel
theorem dX5_init_12 : decode cX5_init 12 = .ok (.aload_n 0, 1) := by decide +kernel
theorem dX5_init_13 : decode cX5_init 13 = .ok (.bipush 121, 2) := by decide +kernel
theorem dX5_init_15 : decode cX5_init 15 = .ok (.newarray .int, 2) := by decide +kernel
theorem dX5_init_17 : decode cX5_init 17 = .ok (.putfield 15, 3) := by decide +kernel
theorem dX5_init_20 : decode cX5_init 20 = .ok (.aload_n 0, 1) := by decide +kernel
theorem dX5_init_21 : decode cX5_init 21 = .ok (.bipush 121, 2) := by decide +kernel
theorem dX5_init_23 : decode cX5_init 23 = .ok (.newarray .int, 2) := by decide +kernel
theorem dX5_init_25 : decode cX5_init 25 = .ok (.putfield 18, 3) := by decide +kernel
theorem dX5_init_28 : decode cX5_init 28 = .ok (.return_, 1) := by decide +kernel
theorem dX5_cut_0 : decode cX5_cut 0 = .ok (.aload_n 0, 1) := by decide +kernel
theorem dX5_cut_1 : decode cX5_cut 1 = .ok (.iconst 0, 1) := by decide +kernel
theorem dX5_cut_2 : decode cX5_cut 2 = .ok (.putfield 21, 3) := by decide +kernel
theorem dX5_cut_5 : decode cX5_cut 5 = .ok (.iconst 0, 1) := by decide +kernel
theorem dX5_cut_6 : decode cX5_cut 6 = .ok (.istore_n 3, 1) := by decide +kernel
theorem dX5_cut_7 : decode cX5_cut 7 = .ok (.iload_n 3, 1) := by decide +kernel
theorem dX5_cut_8 : decode cX5_cut 8 = .ok (.iload_n 2, 1) := by decide +kernel
theorem dX5_cut_9 : decode cX5_cut 9 = .ok (.if_icmp .ge 56, 3) := by decide +kernel
theorem dX5_cut_12 : decode cX5_cut 12 = .ok (.iload_n 3, 1) := by decide +kernel
theorem dX5_cut_13 : decode cX5_cut 13 = .ok (.aload_n 1, 1) := by decide +kernel
theorem dX5_cut_14 : decode cX5_cut 14 = .ok (.arraylength, 1) := by decide +kernel
theorem dX5_cut_15 : decode cX5_cut 15 = .ok (.if_icmp .ge 50, 3) := by decide +kernel
theorem dX5_cut_18 : decode cX5_cut 18 = .ok (.aload_n 1, 1) := by decide +kernel
theorem dX5_cut_19 : decode cX5_cut 19 = .ok (.iload_n 2, 1) := by decide +kernel
theorem dX5_cut_20 : decode cX5_cut 20 = .ok (.iload_n 3, 1) := by decide +kernel
theorem dX5_cut_21 : decode cX5_cut 21 = .ok (.invokestatic 25, 3) := by decide +kernel
theorem dX5_cut_24 : decode cX5_cut 24 = .ok (.istore 4, 2) := by decide +kernel
theorem dX5_cut_26 : decode cX5_cut 26 = .ok (.aload_n 1, 1) := by decide +kernel
theorem dX5_cut_27 : decode cX5_cut 27 = .ok (.iload_n 3, 1) := by decide +kernel
theorem dX5_cut_28 : decode cX5_cut 28 = .ok (.iaload, 1) := by decide +kernel
theorem dX5_cut_29 : decode cX5_cut 29 = .ok (.bipush 32, 2) := by decide +kernel
theorem dX5_cut_31 : decode cX5_cut 31 = .ok (.if_icmp .eq 22, 3) := by decide +kernel
theorem dX5_cut_34 : decode cX5_cut 34 = .ok (.aload_n 0, 1) := by decide +kernel
theorem dX5_cut_35 : decode cX5_cut 35 = .ok (.aload_n 1, 1) := by decide +kernel
theorem dX5_cut_36 : decode cX5_cut 36 = .ok (.iload_n 3, 1) := by decide +kernel
theorem dX5_cut_37 : decode cX5_cut 37 = .ok (.iload 4, 2) := by decide +kernel
theorem dX5_cut_39 : decode cX5_cut 39 = .ok (.invokestatic 29, 3) := by decide +kernel
theorem dX5_cut_42 : decode cX5_cut 42 = .ok (.iload_n 3, 1) := by decide +kernel
theorem dX5_cut_43 : decode cX5_cut 43 = .ok (.aload_n 1, 1) := by decide +kernel
theorem dX5_cut_44 : decode cX5_cut 44 = .ok (.iload_n 3, 1) := by decide +kernel
theorem dX5_cut_45 : decode cX5_cut 45 = .ok (.iload 4, 2) := by decide +kernel
theorem dX5_cut_47 : decode cX5_cut 47 = .ok (.invokestatic 32, 3) := by decide +kernel
theorem dX5_cut_50 : decode cX5_cut 50 = .ok (.invokevirtual 35, 3) := by decide +kernel
theorem dX5_cut_53 : decode cX5_cut 53 = .ok (.iload 4, 2) := by decide +kernel
theorem dX5_cut_55 : decode cX5_cut 55 = .ok (.iload_n 3, 1) := by decide +kernel
theorem dX5_cut_56 : decode cX5_cut 56 = .ok (.iconst 1, 1) := by decide +kernel
theorem dX5_cut_57 : decode cX5_cut 57 = .ok (.iadd, 1) := by decide +kernel
theorem dX5_cut_58 : decode cX5_cut 58 = .ok (.invokestatic 39, 3) := by decide +kernel
theorem dX5_cut_61 : decode cX5_cut 61 = .ok (.istore_n 3, 1) := by decide +kernel
theorem dX5_cut_62 : decode cX5_cut 62 = .ok (.goto (-55), 3) := by decide +kernel
theorem dX5_cut_65 : decode cX5_cut 65 = .ok (.aload_n 0, 1) := by decide +kernel
theorem dX5_cut_66 : decode cX5_cut 66 = .ok (.iconst 0, 1) := by decide +kernel
theorem dX5_cut_67 : decode cX5_cut 67 = .ok (.iload_n 2, 1) := by decide +kernel
theorem dX5_cut_68 : decode cX5_cut 68 = .ok (.iconst 0, 1) := by decide +kernel
theorem dX5_cut_69 : decode cX5_cut 69 = .ok (.invokevirtual 35, 3) := by decide +kernel
theorem dX5_cut_72 : decode cX5_cut 72 = .ok (.return_, 1) := by decide +kernel
theorem dX5_add_0 : decode cX5_add 0 = .ok (.aload_n 0, 1) := by decide +kernel
theorem dX5_add_1 : decode cX5_add 1 = .ok (.getfield 21, 3) := by decide +kernel
theorem dX5_add_4 : decode cX5_add 4 = .ok (.bipush 121, 2) := by decide +kernel
theorem dX5_add_6 : decode cX5_add 6 = .ok (.if_icmp .ge 43, 3) := by decide +kernel
theorem dX5_add_9 : decode cX5_add 9 = .ok (.aload_n 0, 1) := by decide +kernel
theorem dX5_add_10 : decode cX5_add 10 = .ok (.getfield 11, 3) := by decide +kernel
theorem dX5_add_13 : decode cX5_add 13 = .ok (.aload_n 0, 1) := by decide +kernel
theorem dX5_add_14 : decode cX5_add 14 = .ok (.getfield 21, 3) := by decide +kernel
theorem dX5_add_17 : decode cX5_add 17 = .ok (.iload_n 1, 1) := by decide +kernel
theorem dX5_add_18 : decode cX5_add 18 = .ok (.iastore, 1) := by decide +kernel
theorem dX5_add_19 : decode cX5_add 19 = .ok (.aload_n 0, 1) := by decide +kernel
theorem dX5_add_20 : decode cX5_add 20 = .ok (.getfield 15, 3) := by decide +kernel
theorem dX5_add_23 : decode cX5_add 23 = .ok (.aload_n 0, 1) := by decide +kernel
theorem dX5_add_24 : decode cX5_add 24 = .ok (.getfield 21, 3) := by decide +kernel
theorem dX5_add_27 : decode cX5_add 27 = .ok (.iload_n 2, 1) := by decide +kernel
theorem dX5_add_28 : decode cX5_add 28 = .ok (.iastore, 1) := by decide +kernel
theorem dX5_add_29 : decode cX5_add 29 = .ok (.aload_n 0, 1) := by decide +kernel
theorem dX5_add_30 : decode cX5_add 30 = .ok (.getfield 18, 3) := by decide +kernel
theorem dX5_add_33 : decode cX5_add 33 = .ok (.aload_n 0, 1) := by decide +kernel
theorem dX5_add_34 : decode cX5_add 34 = .ok (.getfield 21, 3) := by decide +kernel
theorem dX5_add_37 : decode cX5_add 37 = .ok (.iload_n 3, 1) := by decide +kernel
theorem dX5_add_38 : decode cX5_add 38 = .ok (.iastore, 1) := by decide +kernel
theorem dX5_add_39 : decode cX5_add 39 = .ok (.aload_n 0, 1) := by decide +kernel
theorem dX5_add_40 : decode cX5_add 40 = .ok (.dup, 1) := by decide +kernel
theorem dX5_add_41 : decode cX5_add 41 = .ok (.getfield 21, 3) := by decide +kernel
theorem dX5_add_44 : decode cX5_add 44 = .ok (.iconst 1, 1) := by decide +kernel
theorem dX5_add_45 : decode cX5_add 45 = .ok (.iadd, 1) := by decide +kernel
theorem dX5_add_46 : decode cX5_add 46 = .ok (.putfield 21, 3) := by decide +kernel
theorem dX5_add_49 : decode cX5_add 49 = .ok (.return_, 1) := by decide +kernel
theorem dX5_endOfToken_0 : decode cX5_endOfToken 0 = .ok (.aload_n 0, 1) := by decide +kernel
theorem dX5_endOfToken_1 : decode cX5_endOfToken 1 = .ok (.iload_n 2, 1) := by decide +kernel
theorem dX5_endOfToken_2 : decode cX5_endOfToken 2 = .ok (.invokestatic 45, 3) := by decide +kernel
theorem dX5_endOfToken_5 : decode cX5_endOfToken 5 = .ok (.istore_n 3, 1) := by decide +kernel
theorem dX5_endOfToken_6 : decode cX5_endOfToken 6 = .ok (.iload_n 2, 1) := by decide +kernel
theorem dX5_endOfToken_7 : decode cX5_endOfToken 7 = .ok (.iconst 1, 1) := by decide +kernel
theorem dX5_endOfToken_8 : decode cX5_endOfToken 8 = .ok (.iadd, 1) := by decide +kernel
theorem dX5_endOfToken_9 : decode cX5_endOfToken 9 = .ok (.istore 4, 2) := by decide +kernel
theorem dX5_endOfToken_11 : decode cX5_endOfToken 11 = .ok (.iload_n 3, 1) := by decide +kernel
theorem dX5_endOfToken_12 : decode cX5_endOfToken 12 = .ok (.iconst 1, 1) := by decide +kernel
theorem dX5_endOfToken_13 : decode cX5_endOfToken 13 = .ok (.if_icmp .eq 25, 3) := by decide +kernel
theorem dX5_endOfToken_16 : decode cX5_endOfToken 16 = .ok (.iload 4, 2) := by decide +kernel
theorem dX5_endOfToken_18 : decode cX5_endOfToken 18 = .ok (.iload_n 1, 1) := by decide +kernel
theorem dX5_endOfToken_19 : decode cX5_endOfToken 19 = .ok (.if_icmp .ge 19, 3) := by decide +kernel
theorem dX5_endOfToken_22 : decode cX5_endOfToken 22 = .ok (.aload_n 0, 1) := by decide +kernel
theorem dX5_endOfToken_23 : decode cX5_endOfToken 23 = .ok (.iload 4, 2) := by decide +kernel
theorem dX5_endOfToken_25 : decode cX5_endOfToken 25 = .ok (.invokestatic 45, 3) := by decide +kernel
theorem dX5_endOfToken_28 : decode cX5_endOfToken 28 = .ok (.iload_n 3, 1) := by decide +kernel
theorem dX5_endOfToken_29 : decode cX5_endOfToken 29 = .ok (.if_icmp .ne 9, 3) := by decide +kernel
theorem dX5_endOfToken_32 : decode cX5_endOfToken 32 = .ok (.iinc 4 1, 3) := by decide +kernel
theorem dX5_endOfToken_35 : decode cX5_endOfToken 35 = .ok (.goto (-24), 3) := by decide +kernel
theorem dX5_endOfToken_38 : decode cX5_endOfToken 38 = .ok (.iload 4, 2) := by decide +kernel
theorem dX5_endOfToken_40 : decode cX5_endOfToken 40 = .ok (.ireturn, 1) := by decide +kernel
theorem dX5_sortAt_0 : decode cX5_sortAt 0 = .ok (.iload_n 1, 1) := by decide +kernel
theorem dX5_sortAt_1 : decode cX5_sortAt 1 = .ok (.ifCond .lt 15, 3) := by decide +kernel
theorem dX5_sortAt_4 : decode cX5_sortAt 4 = .ok (.iload_n 1, 1) := by decide +kernel
theorem dX5_sortAt_5 : decode cX5_sortAt 5 = .ok (.aload_n 0, 1) := by decide +kernel
theorem dX5_sortAt_6 : decode cX5_sortAt 6 = .ok (.arraylength, 1) := by decide +kernel
theorem dX5_sortAt_7 : decode cX5_sortAt 7 = .ok (.if_icmp .ge 9, 3) := by decide +kernel
theorem dX5_sortAt_10 : decode cX5_sortAt 10 = .ok (.aload_n 0, 1) := by decide +kernel
theorem dX5_sortAt_11 : decode cX5_sortAt 11 = .ok (.iload_n 1, 1) := by decide +kernel
theorem dX5_sortAt_12 : decode cX5_sortAt 12 = .ok (.iaload, 1) := by decide +kernel
theorem dX5_sortAt_13 : decode cX5_sortAt 13 = .ok (.goto 5, 3) := by decide +kernel
theorem dX5_sortAt_16 : decode cX5_sortAt 16 = .ok (.bipush (-9), 2) := by decide +kernel
theorem dX5_sortAt_18 : decode cX5_sortAt 18 = .ok (.istore_n 2, 1) := by decide +kernel
theorem dX5_sortAt_19 : decode cX5_sortAt 19 = .ok (.iload_n 2, 1) := by decide +kernel
theorem dX5_sortAt_20 : decode cX5_sortAt 20 = .ok (.bipush 97, 2) := by decide +kernel
theorem dX5_sortAt_22 : decode cX5_sortAt 22 = .ok (.if_icmp .lt 11, 3) := by decide +kernel
theorem dX5_sortAt_25 : decode cX5_sortAt 25 = .ok (.iload_n 2, 1) := by decide +kernel
theorem dX5_sortAt_26 : decode cX5_sortAt 26 = .ok (.bipush 122, 2) := by decide +kernel
theorem dX5_sortAt_28 : decode cX5_sortAt 28 = .ok (.if_icmp .gt 5, 3) := by decide +kernel
theorem dX5_sortAt_31 : decode cX5_sortAt 31 = .ok (.iconst 5, 1) := by decide +kernel
theorem dX5_sortAt_32 : decode cX5_sortAt 32 = .ok (.ireturn, 1) := by decide +kernel
theorem dX5_sortAt_33 : decode cX5_sortAt 33 = .ok (.iload_n 2, 1) := by decide +kernel
theorem dX5_sortAt_34 : decode cX5_sortAt 34 = .ok (.bipush 48, 2) := by decide +kernel
theorem dX5_sortAt_36 : decode cX5_sortAt 36 = .ok (.if_icmp .lt 13, 3) := by decide +kernel
theorem dX5_sortAt_39 : decode cX5_sortAt 39 = .ok (.iload_n 2, 1) := by decide +kernel
theorem dX5_sortAt_40 : decode cX5_sortAt 40 = .ok (.bipush 57, 2) := by decide +kernel
theorem dX5_sortAt_42 : decode cX5_sortAt 42 = .ok (.if_icmp .gt 7, 3) := by decide +kernel
theorem dX5_sortAt_45 : decode cX5_sortAt 45 = .ok (.iconst 2, 1) := by decide +kernel
theorem dX5_sortAt_46 : decode cX5_sortAt 46 = .ok (.goto 4, 3) := by decide +kernel
theorem dX5_sortAt_49 : decode cX5_sortAt 49 = .ok (.iconst 1, 1) := by decide +kernel
theorem dX5_sortAt_50 : decode cX5_sortAt 50 = .ok (.ireturn, 1) := by decide +kernel
theorem dX5_kindOf_0 : decode cX5_kindOf 0 = .ok (.aload_n 0, 1) := by decide +kernel
theorem dX5_kindOf_1 : decode cX5_kindOf 1 = .ok (.iload_n 1, 1) := by decide +kernel
theorem dX5_kindOf_2 : decode cX5_kindOf 2 = .ok (.invokestatic 45, 3) := by decide +kernel
theorem dX5_kindOf_5 : decode cX5_kindOf 5 = .ok (.lookupswitch 41 #[(2, 27), (5, 34)], 27) := by decide +kernel
theorem dX5_kindOf_32 : decode cX5_kindOf 32 = .ok (.aload_n 0, 1) := by decide +kernel
theorem dX5_kindOf_33 : decode cX5_kindOf 33 = .ok (.iload_n 1, 1) := by decide +kernel
theorem dX5_kindOf_34 : decode cX5_kindOf 34 = .ok (.iload_n 2, 1) := by decide +kernel
theorem dX5_kindOf_35 : decode cX5_kindOf 35 = .ok (.invokestatic 49, 3) := by decide +kernel
theorem dX5_kindOf_38 : decode cX5_kindOf 38 = .ok (.ireturn, 1) := by decide +kernel
theorem dX5_kindOf_39 : decode cX5_kindOf 39 = .ok (.aload_n 0, 1) := by decide +kernel
theorem dX5_kindOf_40 : decode cX5_kindOf 40 = .ok (.iload_n 1, 1) := by decide +kernel
theorem dX5_kindOf_41 : decode cX5_kindOf 41 = .ok (.iload_n 2, 1) := by decide +kernel
theorem dX5_kindOf_42 : decode cX5_kindOf 42 = .ok (.invokestatic 52, 3) := by decide +kernel
theorem dX5_kindOf_45 : decode cX5_kindOf 45 = .ok (.ireturn, 1) := by decide +kernel
theorem dX5_kindOf_46 : decode cX5_kindOf 46 = .ok (.aload_n 0, 1) := by decide +kernel
theorem dX5_kindOf_47 : decode cX5_kindOf 47 = .ok (.iload_n 1, 1) := by decide +kernel
theorem dX5_kindOf_48 : decode cX5_kindOf 48 = .ok (.iload_n 2, 1) := by decide +kernel
theorem dX5_kindOf_49 : decode cX5_kindOf 49 = .ok (.ldc 55, 2) := by decide +kernel
theorem dX5_kindOf_51 : decode cX5_kindOf 51 = .ok (.invokestatic 57, 3) := by decide +kernel
theorem dX5_kindOf_54 : decode cX5_kindOf 54 = .ok (.ifCond .eq 7, 3) := by decide +kernel
theorem dX5_kindOf_57 : decode cX5_kindOf 57 = .ok (.iconst 3, 1) := by decide +kernel
theorem dX5_kindOf_58 : decode cX5_kindOf 58 = .ok (.goto 4, 3) := by decide +kernel
theorem dX5_kindOf_61 : decode cX5_kindOf 61 = .ok (.iconst 1, 1) := by decide +kernel
theorem dX5_kindOf_62 : decode cX5_kindOf 62 = .ok (.ireturn, 1) := by decide +kernel
theorem dX5_kindOfFigures_0 : decode cX5_kindOfFigures 0 = .ok (.iload_n 2, 1) := by decide +kernel
theorem dX5_kindOfFigures_1 : decode cX5_kindOfFigures 1 = .ok (.iload_n 1, 1) := by decide +kernel
theorem dX5_kindOfFigures_2 : decode cX5_kindOfFigures 2 = .ok (.isub, 1) := by decide +kernel
theorem dX5_kindOfFigures_3 : decode cX5_kindOfFigures 3 = .ok (.iconst 1, 1) := by decide +kernel
theorem dX5_kindOfFigures_4 : decode cX5_kindOfFigures 4 = .ok (.if_icmp .le 20, 3) := by decide +kernel
theorem dX5_kindOfFigures_7 : decode cX5_kindOfFigures 7 = .ok (.aload_n 0, 1) := by decide +kernel
theorem dX5_kindOfFigures_8 : decode cX5_kindOfFigures 8 = .ok (.iload_n 1, 1) := by decide +kernel
theorem dX5_kindOfFigures_9 : decode cX5_kindOfFigures 9 = .ok (.iload_n 1, 1) := by decide +kernel
theorem dX5_kindOfFigures_10 : decode cX5_kindOfFigures 10 = .ok (.iconst 1, 1) := by decide +kernel
theorem dX5_kindOfFigures_11 : decode cX5_kindOfFigures 11 = .ok (.iadd, 1) := by decide +kernel
theorem dX5_kindOfFigures_12 : decode cX5_kindOfFigures 12 = .ok (.ldc 61, 2) := by decide +kernel
theorem dX5_kindOfFigures_14 : decode cX5_kindOfFigures 14 = .ok (.invokestatic 57, 3) := by decide +kernel
theorem dX5_kindOfFigures_17 : decode cX5_kindOfFigures 17 = .ok (.ifCond .eq 7, 3) := by decide +kernel
theorem dX5_kindOfFigures_20 : decode cX5_kindOfFigures 20 = .ok (.iconst 1, 1) := by decide +kernel
theorem dX5_kindOfFigures_21 : decode cX5_kindOfFigures 21 = .ok (.goto 4, 3) := by decide +kernel
theorem dX5_kindOfFigures_24 : decode cX5_kindOfFigures 24 = .ok (.iconst 0, 1) := by decide +kernel
theorem dX5_kindOfFigures_25 : decode cX5_kindOfFigures 25 = .ok (.istore_n 3, 1) := by decide +kernel
theorem dX5_kindOfFigures_26 : decode cX5_kindOfFigures 26 = .ok (.iload_n 3, 1) := by decide +kernel
theorem dX5_kindOfFigures_27 : decode cX5_kindOfFigures 27 = .ok (.ifCond .ne 14, 3) := by decide +kernel
theorem dX5_kindOfFigures_30 : decode cX5_kindOfFigures 30 = .ok (.aload_n 0, 1) := by decide +kernel
theorem dX5_kindOfFigures_31 : decode cX5_kindOfFigures 31 = .ok (.iload_n 1, 1) := by decide +kernel
theorem dX5_kindOfFigures_32 : decode cX5_kindOfFigures 32 = .ok (.iload_n 2, 1) := by decide +kernel
theorem dX5_kindOfFigures_33 : decode cX5_kindOfFigures 33 = .ok (.invokestatic 32, 3) := by decide +kernel
theorem dX5_kindOfFigures_36 : decode cX5_kindOfFigures 36 = .ok (.bipush 99, 2) := by decide +kernel
theorem dX5_kindOfFigures_38 : decode cX5_kindOfFigures 38 = .ok (.if_icmp .le 7, 3) := by decide +kernel
theorem dX5_kindOfFigures_41 : decode cX5_kindOfFigures 41 = .ok (.iconst 1, 1) := by decide +kernel
theorem dX5_kindOfFigures_42 : decode cX5_kindOfFigures 42 = .ok (.goto 4, 3) := by decide +kernel
theorem dX5_kindOfFigures_45 : decode cX5_kindOfFigures 45 = .ok (.iconst 2, 1) := by decide +kernel
theorem dX5_kindOfFigures_46 : decode cX5_kindOfFigures 46 = .ok (.ireturn, 1) := by decide +kernel
theorem dX5_kindOfWord_0 : decode cX5_kindOfWord 0 = .ok (.aload_n 0, 1) := by decide +kernel
theorem dX5_kindOfWord_1 : decode cX5_kindOfWord 1 = .ok (.iload_n 1, 1) := by decide +kernel
theorem dX5_kindOfWord_2 : decode cX5_kindOfWord 2 = .ok (.iload_n 2, 1) := by decide +kernel
theorem dX5_kindOfWord_3 : decode cX5_kindOfWord 3 = .ok (.ldc 63, 2) := by decide +kernel
theorem dX5_kindOfWord_5 : decode cX5_kindOfWord 5 = .ok (.invokestatic 57, 3) := by decide +kernel
theorem dX5_kindOfWord_8 : decode cX5_kindOfWord 8 = .ok (.ifCond .eq 5, 3) := by decide +kernel
theorem dX5_kindOfWord_11 : decode cX5_kindOfWord 11 = .ok (.iconst 4, 1) := by decide +kernel
theorem dX5_kindOfWord_12 : decode cX5_kindOfWord 12 = .ok (.ireturn, 1) := by decide +kernel
theorem dX5_kindOfWord_13 : decode cX5_kindOfWord 13 = .ok (.aload_n 0, 1) := by decide +kernel
theorem dX5_kindOfWord_14 : decode cX5_kindOfWord 14 = .ok (.iload_n 1, 1) := by decide +kernel
theorem dX5_kindOfWord_15 : decode cX5_kindOfWord 15 = .ok (.iload_n 2, 1) := by decide +kernel
theorem dX5_kindOfWord_16 : decode cX5_kindOfWord 16 = .ok (.ldc 65, 2) := by decide +kernel
theorem dX5_kindOfWord_18 : decode cX5_kindOfWord 18 = .ok (.invokestatic 57, 3) := by decide +kernel
theorem dX5_kindOfWord_21 : decode cX5_kindOfWord 21 = .ok (.ifCond .eq 5, 3) := by decide +kernel
theorem dX5_kindOfWord_24 : decode cX5_kindOfWord 24 = .ok (.iconst 5, 1) := by decide +kernel
theorem dX5_kindOfWord_25 : decode cX5_kindOfWord 25 = .ok (.ireturn, 1) := by decide +kernel
theorem dX5_kindOfWord_26 : decode cX5_kindOfWord 26 = .ok (.aload_n 0, 1) := by decide +kernel
theorem dX5_kindOfWord_27 : decode cX5_kindOfWord 27 = .ok (.iload_n 1, 1) := by decide +kernel
theorem dX5_kindOfWord_28 : decode cX5_kindOfWord 28 = .ok (.iload_n 2, 1) := by decide +kernel
theorem dX5_kindOfWord_29 : decode cX5_kindOfWord 29 = .ok (.ldc 67, 2) := by decide +kernel
theorem dX5_kindOfWord_31 : decode cX5_kindOfWord 31 = .ok (.invokestatic 57, 3) := by decide +kernel
theorem dX5_kindOfWord_34 : decode cX5_kindOfWord 34 = .ok (.ifCond .eq 6, 3) := by decide +kernel
theorem dX5_kindOfWord_37 : decode cX5_kindOfWord 37 = .ok (.bipush 6, 2) := by decide +kernel
theorem dX5_kindOfWord_39 : decode cX5_kindOfWord 39 = .ok (.ireturn, 1) := by decide +kernel
theorem dX5_kindOfWord_40 : decode cX5_kindOfWord 40 = .ok (.aload_n 0, 1) := by decide +kernel
theorem dX5_kindOfWord_41 : decode cX5_kindOfWord 41 = .ok (.iload_n 1, 1) := by decide +kernel
theorem dX5_kindOfWord_42 : decode cX5_kindOfWord 42 = .ok (.iload_n 2, 1) := by decide +kernel
theorem dX5_kindOfWord_43 : decode cX5_kindOfWord 43 = .ok (.ldc 69, 2) := by decide +kernel
theorem dX5_kindOfWord_45 : decode cX5_kindOfWord 45 = .ok (.invokestatic 57, 3) := by decide +kernel
theorem dX5_kindOfWord_48 : decode cX5_kindOfWord 48 = .ok (.ifCond .eq 8, 3) := by decide +kernel
theorem dX5_kindOfWord_51 : decode cX5_kindOfWord 51 = .ok (.bipush 7, 2) := by decide +kernel
theorem dX5_kindOfWord_53 : decode cX5_kindOfWord 53 = .ok (.goto 4, 3) := by decide +kernel
theorem dX5_kindOfWord_56 : decode cX5_kindOfWord 56 = .ok (.iconst 1, 1) := by decide +kernel
theorem dX5_kindOfWord_57 : decode cX5_kindOfWord 57 = .ok (.ireturn, 1) := by decide +kernel
theorem dX5_spells_0 : decode cX5_spells 0 = .ok (.iload_n 2, 1) := by decide +kernel
theorem dX5_spells_1 : decode cX5_spells 1 = .ok (.iload_n 1, 1) := by decide +kernel
theorem dX5_spells_2 : decode cX5_spells 2 = .ok (.isub, 1) := by decide +kernel
theorem dX5_spells_3 : decode cX5_spells 3 = .ok (.aload_n 3, 1) := by decide +kernel
theorem dX5_spells_4 : decode cX5_spells 4 = .ok (.invokevirtual 71, 3) := by decide +kernel
theorem dX5_spells_7 : decode cX5_spells 7 = .ok (.if_icmp .ne 13, 3) := by decide +kernel
theorem dX5_spells_10 : decode cX5_spells 10 = .ok (.iload_n 1, 1) := by decide +kernel
theorem dX5_spells_11 : decode cX5_spells 11 = .ok (.ifCond .lt 9, 3) := by decide +kernel
theorem dX5_spells_14 : decode cX5_spells 14 = .ok (.iload_n 2, 1) := by decide +kernel
theorem dX5_spells_15 : decode cX5_spells 15 = .ok (.aload_n 0, 1) := by decide +kernel
theorem dX5_spells_16 : decode cX5_spells 16 = .ok (.arraylength, 1) := by decide +kernel
theorem dX5_spells_17 : decode cX5_spells 17 = .ok (.if_icmp .le 5, 3) := by decide +kernel
theorem dX5_spells_20 : decode cX5_spells 20 = .ok (.iconst 0, 1) := by decide +kernel
theorem dX5_spells_21 : decode cX5_spells 21 = .ok (.ireturn, 1) := by decide +kernel
theorem dX5_spells_22 : decode cX5_spells 22 = .ok (.iconst 0, 1) := by decide +kernel
theorem dX5_spells_23 : decode cX5_spells 23 = .ok (.istore 4, 2) := by decide +kernel
theorem dX5_spells_25 : decode cX5_spells 25 = .ok (.iload 4, 2) := by decide +kernel
theorem dX5_spells_27 : decode cX5_spells 27 = .ok (.aload_n 3, 1) := by decide +kernel
theorem dX5_spells_28 : decode cX5_spells 28 = .ok (.invokevirtual 71, 3) := by decide +kernel
theorem dX5_spells_31 : decode cX5_spells 31 = .ok (.if_icmp .ge 26, 3) := by decide +kernel
theorem dX5_spells_34 : decode cX5_spells 34 = .ok (.aload_n 0, 1) := by decide +kernel
theorem dX5_spells_35 : decode cX5_spells 35 = .ok (.iload_n 1, 1) := by decide +kernel
theorem dX5_spells_36 : decode cX5_spells 36 = .ok (.iload 4, 2) := by decide +kernel
theorem dX5_spells_38 : decode cX5_spells 38 = .ok (.iadd, 1) := by decide +kernel
theorem dX5_spells_39 : decode cX5_spells 39 = .ok (.iaload, 1) := by decide +kernel
theorem dX5_spells_40 : decode cX5_spells 40 = .ok (.aload_n 3, 1) := by decide +kernel
theorem dX5_spells_41 : decode cX5_spells 41 = .ok (.iload 4, 2) := by decide +kernel
theorem dX5_spells_43 : decode cX5_spells 43 = .ok (.invokevirtual 77, 3) := by decide +kernel
theorem dX5_spells_46 : decode cX5_spells 46 = .ok (.if_icmp .eq 5, 3) := by decide +kernel
theorem dX5_spells_49 : decode cX5_spells 49 = .ok (.iconst 0, 1) := by decide +kernel
theorem dX5_spells_50 : decode cX5_spells 50 = .ok (.ireturn, 1) := by decide +kernel
theorem dX5_spells_51 : decode cX5_spells 51 = .ok (.iinc 4 1, 3) := by decide +kernel
theorem dX5_spells_54 : decode cX5_spells 54 = .ok (.goto (-29), 3) := by decide +kernel
theorem dX5_spells_57 : decode cX5_spells 57 = .ok (.iconst 1, 1) := by decide +kernel
theorem dX5_spells_58 : decode cX5_spells 58 = .ok (.ireturn, 1) := by decide +kernel
theorem dX5_valueOf_0 : decode cX5_valueOf 0 = .ok (.iconst 0, 1) := by decide +kernel
theorem dX5_valueOf_1 : decode cX5_valueOf 1 = .ok (.istore_n 3, 1) := by decide +kernel
theorem dX5_valueOf_2 : decode cX5_valueOf 2 = .ok (.iload_n 1, 1) := by decide +kernel
theorem dX5_valueOf_3 : decode cX5_valueOf 3 = .ok (.istore 4, 2) := by decide +kernel
theorem dX5_valueOf_5 : decode cX5_valueOf 5 = .ok (.iload 4, 2) := by decide +kernel
theorem dX5_valueOf_7 : decode cX5_valueOf 7 = .ok (.iload_n 2, 1) := by decide +kernel
theorem dX5_valueOf_8 : decode cX5_valueOf 8 = .ok (.if_icmp .ge 37, 3) := by decide +kernel
theorem dX5_valueOf_11 : decode cX5_valueOf 11 = .ok (.aload_n 0, 1) := by decide +kernel
theorem dX5_valueOf_12 : decode cX5_valueOf 12 = .ok (.iload 4, 2) := by decide +kernel
theorem dX5_valueOf_14 : decode cX5_valueOf 14 = .ok (.invokestatic 45, 3) := by decide +kernel
theorem dX5_valueOf_17 : decode cX5_valueOf 17 = .ok (.iconst 2, 1) := by decide +kernel
theorem dX5_valueOf_18 : decode cX5_valueOf 18 = .ok (.if_icmp .ne 27, 3) := by decide +kernel
theorem dX5_valueOf_21 : decode cX5_valueOf 21 = .ok (.bipush 10, 2) := by decide +kernel
theorem dX5_valueOf_23 : decode cX5_valueOf 23 = .ok (.iload_n 3, 1) := by decide +kernel
theorem dX5_valueOf_24 : decode cX5_valueOf 24 = .ok (.imul, 1) := by decide +kernel
theorem dX5_valueOf_25 : decode cX5_valueOf 25 = .ok (.aload_n 0, 1) := by decide +kernel
theorem dX5_valueOf_26 : decode cX5_valueOf 26 = .ok (.iload 4, 2) := by decide +kernel
theorem dX5_valueOf_28 : decode cX5_valueOf 28 = .ok (.iaload, 1) := by decide +kernel
theorem dX5_valueOf_29 : decode cX5_valueOf 29 = .ok (.iadd, 1) := by decide +kernel
theorem dX5_valueOf_30 : decode cX5_valueOf 30 = .ok (.bipush 48, 2) := by decide +kernel
theorem dX5_valueOf_32 : decode cX5_valueOf 32 = .ok (.isub, 1) := by decide +kernel
theorem dX5_valueOf_33 : decode cX5_valueOf 33 = .ok (.bipush 100, 2) := by decide +kernel
theorem dX5_valueOf_35 : decode cX5_valueOf 35 = .ok (.invokestatic 81, 3) := by decide +kernel
theorem dX5_valueOf_38 : decode cX5_valueOf 38 = .ok (.istore_n 3, 1) := by decide +kernel
theorem dX5_valueOf_39 : decode cX5_valueOf 39 = .ok (.iinc 4 1, 3) := by decide +kernel
theorem dX5_valueOf_42 : decode cX5_valueOf 42 = .ok (.goto (-37), 3) := by decide +kernel
theorem dX5_valueOf_45 : decode cX5_valueOf 45 = .ok (.iload_n 3, 1) := by decide +kernel
theorem dX5_valueOf_46 : decode cX5_valueOf 46 = .ok (.ireturn, 1) := by decide +kernel
theorem dX6_init_0 : decode cX6_init 0 = .ok (.aload_n 0, 1) := by decide +kernel
theorem dX6_init_1 : decode cX6_init 1 = .ok (.invokespecial 3, 3) := by decide +kernel
theorem dX6_init_4 : decode cX6_init 4 = .ok (.aload_n 0, 1) := by decide +kernel
theorem dX6_init_5 : decode cX6_init 5 = .ok (.iconst 5, 1) := by decide +kernel
theorem dX6_init_6 : decode cX6_init 6 = .ok (.newarray .int, 2) := by decide +kernel
theorem dX6_init_8 : decode cX6_init 8 = .ok (.putfield 9, 3) := by decide +kernel
theorem dX6_init_11 : decode cX6_init 11 = .ok (.aload_n 0, 1) := by decide +kernel
theorem dX6_init_12 : decode cX6_init 12 = .ok (.iconst 5, 1) := by decide +kernel
theorem dX6_init_13 : decode cX6_init 13 = .ok (.newarray .int, 2) := by decide +kernel
theorem dX6_init_15 : decode cX6_init 15 = .ok (.putfield 15, 3) := by decide +kernel
theorem dX6_init_18 : decode cX6_init 18 = .ok (.aload_n 0, 1) := by decide +kernel
theorem dX6_init_19 : decode cX6_init 19 = .ok (.iconst 5, 1) := by decide +kernel
theorem dX6_init_20 : decode cX6_init 20 = .ok (.newarray .int, 2) := by decide +kernel
theorem dX6_init_22 : decode cX6_init 22 = .ok (.putfield 18, 3) := by decide +kernel
theorem dX6_init_25 : decode cX6_init 25 = .ok (.aload_n 0, 1) := by decide +kernel
theorem dX6_init_26 : decode cX6_init 26 = .ok (.iconst 5, 1) := by decide +kernel
theorem dX6_init_27 : decode cX6_init 27 = .ok (.newarray .int, 2) := by decide +kernel
theorem dX6_init_29 : decode cX6_init 29 = .ok (.putfield 21, 3) := by decide +kernel
theorem dX6_init_32 : decode cX6_init 32 = .ok (.aload_n 0, 1) := by decide +kernel
theorem dX6_init_33 : decode cX6_init 33 = .ok (.iconst 5, 1) := by decide +kernel
theorem dX6_init_34 : decode cX6_init 34 = .ok (.newarray .int, 2) := by decide +kernel
theorem dX6_init_36 : decode cX6_init 36 = .ok (.putfield 24, 3) := by decide +kernel
theorem dX6_init_39 : decode cX6_init 39 = .ok (.aload_n 0, 1) := by decide +kernel
theorem dX6_init_40 : decode cX6_init 40 = .ok (.iconst 3, 1) := by decide +kernel
theorem dX6_init_41 : decode cX6_init 41 = .ok (.newarray .int, 2) := by decide +kernel
theorem dX6_init_43 : decode cX6_init 43 = .ok (.putfield 27, 3) := by decide +kernel
theorem dX6_init_46 : decode cX6_init 46 = .ok (.aload_n 0, 1) := by decide +kernel
theorem dX6_init_47 : decode cX6_init 47 = .ok (.iconst 3, 1) := by decide +kernel
theorem dX6_init_48 : decode cX6_init 48 = .ok (.newarray .int, 2) := by decide +kernel
theorem dX6_init_50 : decode cX6_init 50 = .ok (.putfield 30, 3) := by decide +kernel
theorem dX6_init_53 : decode cX6_init 53 = .ok (.aload_n 0, 1) := by decide +kernel
theorem dX6_init_54 : decode cX6_init 54 = .ok (.bipush 16, 2) := by decide +kernel
theorem dX6_init_56 : decode cX6_init 56 = .ok (.newarray .int, 2) := by decide +kernel
theorem dX6_init_58 : decode cX6_init 58 = .ok (.putfield 33, 3) := by decide +kernel
theorem dX6_init_61 : decode cX6_init 61 = .ok (.aload_n 0, 1) := by decide +kernel
theorem dX6_init_62 : decode cX6_init 62 = .ok (.bipush 16, 2) := by decide +kernel
theorem dX6_init_64 : decode cX6_init 64 = .ok (.newarray .int, 2) := by decide +kernel
theorem dX6_init_66 : decode cX6_init 66 = .ok (.putfield 36, 3) := by decide +kernel
theorem dX6_init_69 : decode cX6_init 69 = .ok (.aload_n 0, 1) := by decide +kernel
theorem dX6_init_70 : decode cX6_init 70 = .ok (.invokevirtual 39, 3) := by decide +kernel
theorem dX6_init_73 : decode cX6_init 73 = .ok (.return_, 1) := by decide +kernel
theorem dX6_makeBare_0 : decode cX6_makeBare 0 = .ok (.aload_n 0, 1) := by decide +kernel
theorem dX6_makeBare_1 : decode cX6_makeBare 1 = .ok (.bipush 20, 2) := by decide +kernel
theorem dX6_makeBare_3 : decode cX6_makeBare 3 = .ok (.putfield 42, 3) := by decide +kernel
theorem dX6_makeBare_6 : decode cX6_makeBare 6 = .ok (.aload_n 0, 1) := by decide +kernel
theorem dX6_makeBare_7 : decode cX6_makeBare 7 = .ok (.bipush 10, 2) := by decide +kernel
theorem dX6_makeBare_9 : decode cX6_makeBare 9 = .ok (.putfield 46, 3) := by decide +kernel
theorem dX6_makeBare_12 : decode cX6_makeBare 12 = .ok (.aload_n 0, 1) := by decide +kernel
theorem dX6_makeBare_13 : decode cX6_makeBare 13 = .ok (.iconst 0, 1) := by decide +kernel
theorem dX6_makeBare_14 : decode cX6_makeBare 14 = .ok (.putfield 49, 3) := by decide +kernel
theorem dX6_makeBare_17 : decode cX6_makeBare 17 = .ok (.aload_n 0, 1) := by decide +kernel
theorem dX6_makeBare_18 : decode cX6_makeBare 18 = .ok (.iconst 0, 1) := by decide +kernel
theorem dX6_makeBare_19 : decode cX6_makeBare 19 = .ok (.putfield 52, 3) := by decide +kernel
theorem dX6_makeBare_22 : decode cX6_makeBare 22 = .ok (.aload_n 0, 1) := by decide +kernel
theorem dX6_makeBare_23 : decode cX6_makeBare 23 = .ok (.iconst 0, 1) := by decide +kernel
theorem dX6_makeBare_24 : decode cX6_makeBare 24 = .ok (.putfield 55, 3) := by decide +kernel
theorem dX6_makeBare_27 : decode cX6_makeBare 27 = .ok (.aload_n 0, 1) := by decide +kernel
theorem dX6_makeBare_28 : decode cX6_makeBare 28 = .ok (.iconst 0, 1) := by decide +kernel
theorem dX6_makeBare_29 : decode cX6_makeBare 29 = .ok (.putfield 58, 3) := by decide +kernel
theorem dX6_makeBare_32 : decode cX6_makeBare 32 = .ok (.return_, 1) := by decide +kernel
theorem dX6_copyFrom_0 : decode cX6_copyFrom 0 = .ok (.aload_n 0, 1) := by decide +kernel
theorem dX6_copyFrom_1 : decode cX6_copyFrom 1 = .ok (.aload_n 1, 1) := by decide +kernel
theorem dX6_copyFrom_2 : decode cX6_copyFrom 2 = .ok (.getfield 42, 3) := by decide +kernel
theorem dX6_copyFrom_5 : decode cX6_copyFrom 5 = .ok (.putfield 42, 3) := by decide +kernel
theorem dX6_copyFrom_8 : decode cX6_copyFrom 8 = .ok (.aload_n 0, 1) := by decide +kernel
theorem dX6_copyFrom_9 : decode cX6_copyFrom 9 = .ok (.aload_n 1, 1) := by decide +kernel
theorem dX6_copyFrom_10 : decode cX6_copyFrom 10 = .ok (.getfield 46, 3) := by decide +kernel
theorem dX6_copyFrom_13 : decode cX6_copyFrom 13 = .ok (.putfield 46, 3) := by decide +kernel
theorem dX6_copyFrom_16 : decode cX6_copyFrom 16 = .ok (.aload_n 0, 1) := by decide +kernel
theorem dX6_copyFrom_17 : decode cX6_copyFrom 17 = .ok (.aload_n 1, 1) := by decide +kernel
theorem dX6_copyFrom_18 : decode cX6_copyFrom 18 = .ok (.getfield 49, 3) := by decide +kernel
theorem dX6_copyFrom_21 : decode cX6_copyFrom 21 = .ok (.putfield 49, 3) := by decide +kernel
theorem dX6_copyFrom_24 : decode cX6_copyFrom 24 = .ok (.aload_n 0, 1) := by decide +kernel
theorem dX6_copyFrom_25 : decode cX6_copyFrom 25 = .ok (.aload_n 1, 1) := by decide +kernel
theorem dX6_copyFrom_26 : decode cX6_copyFrom 26 = .ok (.getfield 52, 3) := by decide +kernel
theorem dX6_copyFrom_29 : decode cX6_copyFrom 29 = .ok (.putfield 52, 3) := by decide +kernel
theorem dX6_copyFrom_32 : decode cX6_copyFrom 32 = .ok (.aload_n 0, 1) := by decide +kernel
theorem dX6_copyFrom_33 : decode cX6_copyFrom 33 = .ok (.aload_n 1, 1) := by decide +kernel
theorem dX6_copyFrom_34 : decode cX6_copyFrom 34 = .ok (.getfield 55, 3) := by decide +kernel
theorem dX6_copyFrom_37 : decode cX6_copyFrom 37 = .ok (.putfield 55, 3) := by decide +kernel
theorem dX6_copyFrom_40 : decode cX6_copyFrom 40 = .ok (.aload_n 0, 1) := by decide +kernel
theorem dX6_copyFrom_41 : decode cX6_copyFrom 41 = .ok (.aload_n 1, 1) := by decide +kernel
theorem dX6_copyFrom_42 : decode cX6_copyFrom 42 = .ok (.getfield 58, 3) := by decide +kernel
theorem dX6_copyFrom_45 : decode cX6_copyFrom 45 = .ok (.putfield 58, 3) := by decide +kernel
theorem dX6_copyFrom_48 : decode cX6_copyFrom 48 = .ok (.aload_n 1, 1) := by decide +kernel
theorem dX6_copyFrom_49 : decode cX6_copyFrom 49 = .ok (.getfield 9, 3) := by decide +kernel
theorem dX6_copyFrom_52 : decode cX6_copyFrom 52 = .ok (.iconst 0, 1) := by decide +kernel
theorem dX6_copyFrom_53 : decode cX6_copyFrom 53 = .ok (.aload_n 0, 1) := by decide +kernel
theorem dX6_copyFrom_54 : decode cX6_copyFrom 54 = .ok (.getfield 9, 3) := by decide +kernel
theorem dX6_copyFrom_57 : decode cX6_copyFrom 57 = .ok (.iconst 0, 1) := by decide +kernel
theorem dX6_copyFrom_58 : decode cX6_copyFrom 58 = .ok (.iconst 5, 1) := by decide +kernel
theorem dX6_copyFrom_59 : decode cX6_copyFrom 59 = .ok (.invokestatic 61, 3) := by decide +kernel
theorem dX6_copyFrom_62 : decode cX6_copyFrom 62 = .ok (.aload_n 1, 1) := by decide +kernel
theorem dX6_copyFrom_63 : decode cX6_copyFrom 63 = .ok (.getfield 15, 3) := by decide +kernel
theorem dX6_copyFrom_66 : decode cX6_copyFrom 66 = .ok (.iconst 0, 1) := by decide +kernel
theorem dX6_copyFrom_67 : decode cX6_copyFrom 67 = .ok (.aload_n 0, 1) := by decide +kernel
theorem dX6_copyFrom_68 : decode cX6_copyFrom 68 = .ok (.getfield 15, 3) := by decide +kernel
theorem dX6_copyFrom_71 : decode cX6_copyFrom 71 = .ok (.iconst 0, 1) := by decide +kernel
theorem dX6_copyFrom_72 : decode cX6_copyFrom 72 = .ok (.iconst 5, 1) := by decide +kernel
theorem dX6_copyFrom_73 : decode cX6_copyFrom 73 = .ok (.invokestatic 61, 3) := by decide +kernel
theorem dX6_copyFrom_76 : decode cX6_copyFrom 76 = .ok (.aload_n 1, 1) := by decide +kernel
theorem dX6_copyFrom_77 : decode cX6_copyFrom 77 = .ok (.getfield 18, 3) := by decide +kernel
theorem dX6_copyFrom_80 : decode cX6_copyFrom 80 = .ok (.iconst 0, 1) := by decide +kernel
theorem dX6_copyFrom_81 : decode cX6_copyFrom 81 = .ok (.aload_n 0, 1) := by decide +kernel
theorem dX6_copyFrom_82 : decode cX6_copyFrom 82 = .ok (.getfield 18, 3) := by decide +kernel
theorem dX6_copyFrom_85 : decode cX6_copyFrom 85 = .ok (.iconst 0, 1) := by decide +kernel
theorem dX6_copyFrom_86 : decode cX6_copyFrom 86 = .ok (.iconst 5, 1) := by decide +kernel
theorem dX6_copyFrom_87 : decode cX6_copyFrom 87 = .ok (.invokestatic 61, 3) := by decide +kernel
theorem dX6_copyFrom_90 : decode cX6_copyFrom 90 = .ok (.aload_n 1, 1) := by decide +kernel
theorem dX6_copyFrom_91 : decode cX6_copyFrom 91 = .ok (.getfield 21, 3) := by decide +kernel
theorem dX6_copyFrom_94 : decode cX6_copyFrom 94 = .ok (.iconst 0, 1) := by decide +kernel
theorem dX6_copyFrom_95 : decode cX6_copyFrom 95 = .ok (.aload_n 0, 1) := by decide +kernel
theorem dX6_copyFrom_96 : decode cX6_copyFrom 96 = .ok (.getfield 21, 3) := by decide +kernel
theorem dX6_copyFrom_99 : decode cX6_copyFrom 99 = .ok (.iconst 0, 1) := by decide +kernel
theorem dX6_copyFrom_100 : decode cX6_copyFrom 100 = .ok (.iconst 5, 1) := by decide +kernel
theorem dX6_copyFrom_101 : decode cX6_copyFrom 101 = .ok (.invokestatic 61, 3) := by decide +kernel
theorem dX6_copyFrom_104 : decode cX6_copyFrom 104 = .ok (.aload_n 1, 1) := by decide +kernel
theorem dX6_copyFrom_105 : decode cX6_copyFrom 105 = .ok (.getfield 24, 3) := by decide +kernel
theorem dX6_copyFrom_108 : decode cX6_copyFrom 108 = .ok (.iconst 0, 1) := by decide +kernel
theorem dX6_copyFrom_109 : decode cX6_copyFrom 109 = .ok (.aload_n 0, 1) := by decide +kernel
theorem dX6_copyFrom_110 : decode cX6_copyFrom 110 = .ok (.getfield 24, 3) := by decide +kernel
theorem dX6_copyFrom_113 : decode cX6_copyFrom 113 = .ok (.iconst 0, 1) := by decide +kernel
theorem dX6_copyFrom_114 : decode cX6_copyFrom 114 = .ok (.iconst 5, 1) := by decide +kernel
theorem dX6_copyFrom_115 : decode cX6_copyFrom 115 = .ok (.invokestatic 61, 3) := by decide +kernel
theorem dX6_copyFrom_118 : decode cX6_copyFrom 118 = .ok (.aload_n 1, 1) := by decide +kernel
theorem dX6_copyFrom_119 : decode cX6_copyFrom 119 = .ok (.getfield 27, 3) := by decide +kernel
theorem dX6_copyFrom_122 : decode cX6_copyFrom 122 = .ok (.iconst 0, 1) := by decide +kernel
theorem dX6_copyFrom_123 : decode cX6_copyFrom 123 = .ok (.aload_n 0, 1) := by decide +kernel
theorem dX6_copyFrom_124 : decode cX6_copyFrom 124 = .ok (.getfield 27, 3) := by decide +kernel
theorem dX6_copyFrom_127 : decode cX6_copyFrom 127 = .ok (.iconst 0, 1) := by decide +kernel
theorem dX6_copyFrom_128 : decode cX6_copyFrom 128 = .ok (.iconst 3, 1) := by decide +kernel
theorem dX6_copyFrom_129 : decode cX6_copyFrom 129 = .ok (.invokestatic 61, 3) := by decide +kernel
theorem dX6_copyFrom_132 : decode cX6_copyFrom 132 = .ok (.aload_n 1, 1) := by decide +kernel
theorem dX6_copyFrom_133 : decode cX6_copyFrom 133 = .ok (.getfield 30, 3) := by decide +kernel
theorem dX6_copyFrom_136 : decode cX6_copyFrom 136 = .ok (.iconst 0, 1) := by decide +kernel
theorem dX6_copyFrom_137 : decode cX6_copyFrom 137 = .ok (.aload_n 0, 1) := by decide +kernel
theorem dX6_copyFrom_138 : decode cX6_copyFrom 138 = .ok (.getfield 30, 3) := by decide +kernel
theorem dX6_copyFrom_141 : decode cX6_copyFrom 141 = .ok (.iconst 0, 1) := by decide +kernel
theorem dX6_copyFrom_142 : decode cX6_copyFrom 142 = .ok (.iconst 3, 1) := by decide +kernel
theorem dX6_copyFrom_143 : decode cX6_copyFrom 143 = .ok (.invokestatic 61, 3) := by decide +kernel
theorem dX6_copyFrom_146 : decode cX6_copyFrom 146 = .ok (.aload_n 1, 1) := by decide +kernel
theorem dX6_copyFrom_147 : decode cX6_copyFrom 147 = .ok (.getfield 33, 3) := by decide +kernel
theorem dX6_copyFrom_150 : decode cX6_copyFrom 150 = .ok (.iconst 0, 1) := by decide +kernel
theorem dX6_copyFrom_151 : decode cX6_copyFrom 151 = .ok (.aload_n 0, 1) := by decide +kernel
theorem dX6_copyFrom_152 : decode cX6_copyFrom 152 = .ok (.getfield 33, 3) := by decide +kernel
theorem dX6_copyFrom_155 : decode cX6_copyFrom 155 = .ok (.iconst 0, 1) := by decide +kernel
theorem dX6_copyFrom_156 : decode cX6_copyFrom 156 = .ok (.bipush 16, 2) := by decide +kernel
theorem dX6_copyFrom_158 : decode cX6_copyFrom 158 = .ok (.invokestatic 61, 3) := by decide +kernel
theorem dX6_copyFrom_161 : decode cX6_copyFrom 161 = .ok (.aload_n 1, 1) := by decide +kernel
theorem dX6_copyFrom_162 : decode cX6_copyFrom 162 = .ok (.getfield 36, 3) := by decide +kernel
theorem dX6_copyFrom_165 : decode cX6_copyFrom 165 = .ok (.iconst 0, 1) := by decide +kernel
theorem dX6_copyFrom_166 : decode cX6_copyFrom 166 = .ok (.aload_n 0, 1) := by decide +kernel
theorem dX6_copyFrom_167 : decode cX6_copyFrom 167 = .ok (.getfield 36, 3) := by decide +kernel
theorem dX6_copyFrom_170 : decode cX6_copyFrom 170 = .ok (.iconst 0, 1) := by decide +kernel
theorem dX6_copyFrom_171 : decode cX6_copyFrom 171 = .ok (.bipush 16, 2) := by decide +kernel
theorem dX6_copyFrom_173 : decode cX6_copyFrom 173 = .ok (.invokestatic 61, 3) := by decide +kernel
theorem dX6_copyFrom_176 : decode cX6_copyFrom 176 = .ok (.return_, 1) := by decide +kernel
theorem dX6_addPicture_0 : decode cX6_addPicture 0 = .ok (.aload_n 0, 1) := by decide +kernel
theorem dX6_addPicture_1 : decode cX6_addPicture 1 = .ok (.getfield 52, 3) := by decide +kernel
theorem dX6_addPicture_4 : decode cX6_addPicture 4 = .ok (.iconst 5, 1) := by decide +kernel
theorem dX6_addPicture_5 : decode cX6_addPicture 5 = .ok (.if_icmp .ge 65, 3) := by decide +kernel
theorem dX6_addPicture_8 : decode cX6_addPicture 8 = .ok (.aload_n 0, 1) := by decide +kernel
theorem dX6_addPicture_9 : decode cX6_addPicture 9 = .ok (.getfield 9, 3) := by decide +kernel
theorem dX6_addPicture_12 : decode cX6_addPicture 12 = .ok (.aload_n 0, 1) := by decide +kernel
theorem dX6_addPicture_13 : decode cX6_addPicture 13 = .ok (.getfield 52, 3) := by decide +kernel
theorem dX6_addPicture_16 : decode cX6_addPicture 16 = .ok (.iload_n 1, 1) := by decide +kernel
theorem dX6_addPicture_17 : decode cX6_addPicture 17 = .ok (.iastore, 1) := by decide +kernel
theorem dX6_addPicture_18 : decode cX6_addPicture 18 = .ok (.aload_n 0, 1) := by decide +kernel
theorem dX6_addPicture_19 : decode cX6_addPicture 19 = .ok (.getfield 15, 3) := by decide +kernel
theorem dX6_addPicture_22 : decode cX6_addPicture 22 = .ok (.aload_n 0, 1) := by decide +kernel
theorem dX6_addPicture_23 : decode cX6_addPicture 23 = .ok (.getfield 52, 3) := by decide +kernel
theorem dX6_addPicture_26 : decode cX6_addPicture 26 = .ok (.iload_n 2, 1) := by decide +kernel
theorem dX6_addPicture_27 : decode cX6_addPicture 27 = .ok (.iastore, 1) := by decide +kernel
theorem dX6_addPicture_28 : decode cX6_addPicture 28 = .ok (.aload_n 0, 1) := by decide +kernel
theorem dX6_addPicture_29 : decode cX6_addPicture 29 = .ok (.getfield 18, 3) := by decide +kernel
theorem dX6_addPicture_32 : decode cX6_addPicture 32 = .ok (.aload_n 0, 1) := by decide +kernel
theorem dX6_addPicture_33 : decode cX6_addPicture 33 = .ok (.getfield 52, 3) := by decide +kernel
theorem dX6_addPicture_36 : decode cX6_addPicture 36 = .ok (.iload_n 3, 1) := by decide +kernel
theorem dX6_addPicture_37 : decode cX6_addPicture 37 = .ok (.iastore, 1) := by decide +kernel
theorem dX6_addPicture_38 : decode cX6_addPicture 38 = .ok (.aload_n 0, 1) := by decide +kernel
theorem dX6_addPicture_39 : decode cX6_addPicture 39 = .ok (.getfield 21, 3) := by decide +kernel
theorem dX6_addPicture_42 : decode cX6_addPicture 42 = .ok (.aload_n 0, 1) := by decide +kernel
theorem dX6_addPicture_43 : decode cX6_addPicture 43 = .ok (.getfield 52, 3) := by decide +kernel
theorem dX6_addPicture_46 : decode cX6_addPicture 46 = .ok (.iload 4, 2) := by decide +kernel
theorem dX6_addPicture_48 : decode cX6_addPicture 48 = .ok (.iastore, 1) := by decide +kernel
theorem dX6_addPicture_49 : decode cX6_addPicture 49 = .ok (.aload_n 0, 1) := by decide +kernel
theorem dX6_addPicture_50 : decode cX6_addPicture 50 = .ok (.getfield 24, 3) := by decide +kernel
theorem dX6_addPicture_53 : decode cX6_addPicture 53 = .ok (.aload_n 0, 1) := by decide +kernel
theorem dX6_addPicture_54 : decode cX6_addPicture 54 = .ok (.getfield 52, 3) := by decide +kernel
theorem dX6_addPicture_57 : decode cX6_addPicture 57 = .ok (.bipush (-9), 2) := by decide +kernel
theorem dX6_addPicture_59 : decode cX6_addPicture 59 = .ok (.iastore, 1) := by decide +kernel
theorem dX6_addPicture_60 : decode cX6_addPicture 60 = .ok (.aload_n 0, 1) := by decide +kernel
theorem dX6_addPicture_61 : decode cX6_addPicture 61 = .ok (.dup, 1) := by decide +kernel
theorem dX6_addPicture_62 : decode cX6_addPicture 62 = .ok (.getfield 52, 3) := by decide +kernel
theorem dX6_addPicture_65 : decode cX6_addPicture 65 = .ok (.iconst 1, 1) := by decide +kernel
theorem dX6_addPicture_66 : decode cX6_addPicture 66 = .ok (.iadd, 1) := by decide +kernel
theorem dX6_addPicture_67 : decode cX6_addPicture 67 = .ok (.putfield 52, 3) := by decide +kernel
theorem dX6_addPicture_70 : decode cX6_addPicture 70 = .ok (.return_, 1) := by decide +kernel
theorem dX6_addDoor_0 : decode cX6_addDoor 0 = .ok (.aload_n 0, 1) := by decide +kernel
theorem dX6_addDoor_1 : decode cX6_addDoor 1 = .ok (.getfield 55, 3) := by decide +kernel
theorem dX6_addDoor_4 : decode cX6_addDoor 4 = .ok (.iconst 3, 1) := by decide +kernel
theorem dX6_addDoor_5 : decode cX6_addDoor 5 = .ok (.if_icmp .ge 33, 3) := by decide +kernel
theorem dX6_addDoor_8 : decode cX6_addDoor 8 = .ok (.aload_n 0, 1) := by decide +kernel
theorem dX6_addDoor_9 : decode cX6_addDoor 9 = .ok (.getfield 27, 3) := by decide +kernel
theorem dX6_addDoor_12 : decode cX6_addDoor 12 = .ok (.aload_n 0, 1) := by decide +kernel
theorem dX6_addDoor_13 : decode cX6_addDoor 13 = .ok (.getfield 55, 3) := by decide +kernel
theorem dX6_addDoor_16 : decode cX6_addDoor 16 = .ok (.iload_n 1, 1) := by decide +kernel
theorem dX6_addDoor_17 : decode cX6_addDoor 17 = .ok (.iastore, 1) := by decide +kernel
theorem dX6_addDoor_18 : decode cX6_addDoor 18 = .ok (.aload_n 0, 1) := by decide +kernel
theorem dX6_addDoor_19 : decode cX6_addDoor 19 = .ok (.getfield 30, 3) := by decide +kernel
theorem dX6_addDoor_22 : decode cX6_addDoor 22 = .ok (.aload_n 0, 1) := by decide +kernel
theorem dX6_addDoor_23 : decode cX6_addDoor 23 = .ok (.getfield 55, 3) := by decide +kernel
theorem dX6_addDoor_26 : decode cX6_addDoor 26 = .ok (.iload_n 2, 1) := by decide +kernel
theorem dX6_addDoor_27 : decode cX6_addDoor 27 = .ok (.iastore, 1) := by decide +kernel
theorem dX6_addDoor_28 : decode cX6_addDoor 28 = .ok (.aload_n 0, 1) := by decide +kernel
theorem dX6_addDoor_29 : decode cX6_addDoor 29 = .ok (.dup, 1) := by decide +kernel
theorem dX6_addDoor_30 : decode cX6_addDoor 30 = .ok (.getfield 55, 3) := by decide +kernel
theorem dX6_addDoor_33 : decode cX6_addDoor 33 = .ok (.iconst 1, 1) := by decide +kernel
theorem dX6_addDoor_34 : decode cX6_addDoor 34 = .ok (.iadd, 1) := by decide +kernel
theorem dX6_addDoor_35 : decode cX6_addDoor 35 = .ok (.putfield 55, 3) := by decide +kernel
theorem dX6_addDoor_38 : decode cX6_addDoor 38 = .ok (.return_, 1) := by decide +kernel
theorem dX6_addHole_0 : decode cX6_addHole 0 = .ok (.aload_n 0, 1) := by decide +kernel
theorem dX6_addHole_1 : decode cX6_addHole 1 = .ok (.getfield 58, 3) := by decide +kernel
theorem dX6_addHole_4 : decode cX6_addHole 4 = .ok (.bipush 16, 2) := by decide +kernel
theorem dX6_addHole_6 : decode cX6_addHole 6 = .ok (.if_icmp .ge 33, 3) := by decide +kernel
theorem dX6_addHole_9 : decode cX6_addHole 9 = .ok (.aload_n 0, 1) := by decide +kernel
theorem dX6_addHole_10 : decode cX6_addHole 10 = .ok (.getfield 33, 3) := by decide +kernel
theorem dX6_addHole_13 : decode cX6_addHole 13 = .ok (.aload_n 0, 1) := by decide +kernel
theorem dX6_addHole_14 : decode cX6_addHole 14 = .ok (.getfield 58, 3) := by decide +kernel
theorem dX6_addHole_17 : decode cX6_addHole 17 = .ok (.iload_n 1, 1) := by decide +kernel
theorem dX6_addHole_18 : decode cX6_addHole 18 = .ok (.iastore, 1) := by decide +kernel
theorem dX6_addHole_19 : decode cX6_addHole 19 = .ok (.aload_n 0, 1) := by decide +kernel
theorem dX6_addHole_20 : decode cX6_addHole 20 = .ok (.getfield 36, 3) := by decide +kernel
theorem dX6_addHole_23 : decode cX6_addHole 23 = .ok (.aload_n 0, 1) := by decide +kernel
theorem dX6_addHole_24 : decode cX6_addHole 24 = .ok (.getfield 58, 3) := by decide +kernel
theorem dX6_addHole_27 : decode cX6_addHole 27 = .ok (.iload_n 2, 1) := by decide +kernel
theorem dX6_addHole_28 : decode cX6_addHole 28 = .ok (.iastore, 1) := by decide +kernel
theorem dX6_addHole_29 : decode cX6_addHole 29 = .ok (.aload_n 0, 1) := by decide +kernel
theorem dX6_addHole_30 : decode cX6_addHole 30 = .ok (.dup, 1) := by decide +kernel
theorem dX6_addHole_31 : decode cX6_addHole 31 = .ok (.getfield 58, 3) := by decide +kernel
theorem dX6_addHole_34 : decode cX6_addHole 34 = .ok (.iconst 1, 1) := by decide +kernel
theorem dX6_addHole_35 : decode cX6_addHole 35 = .ok (.iadd, 1) := by decide +kernel
theorem dX6_addHole_36 : decode cX6_addHole 36 = .ok (.putfield 58, 3) := by decide +kernel
theorem dX6_addHole_39 : decode cX6_addHole 39 = .ok (.return_, 1) := by decide +kernel
theorem dX6_removeHole_0 : decode cX6_removeHole 0 = .ok (.aload_n 0, 1) := by decide +kernel
theorem dX6_removeHole_1 : decode cX6_removeHole 1 = .ok (.iload_n 1, 1) := by decide +kernel
theorem dX6_removeHole_2 : decode cX6_removeHole 2 = .ok (.invokevirtual 67, 3) := by decide +kernel
theorem dX6_removeHole_5 : decode cX6_removeHole 5 = .ok (.ifCond .eq 59, 3) := by decide +kernel
theorem dX6_removeHole_8 : decode cX6_removeHole 8 = .ok (.iload_n 1, 1) := by decide +kernel
theorem dX6_removeHole_9 : decode cX6_removeHole 9 = .ok (.iconst 1, 1) := by decide +kernel
theorem dX6_removeHole_10 : decode cX6_removeHole 10 = .ok (.iadd, 1) := by decide +kernel
theorem dX6_removeHole_11 : decode cX6_removeHole 11 = .ok (.istore_n 2, 1) := by decide +kernel
theorem dX6_removeHole_12 : decode cX6_removeHole 12 = .ok (.iload_n 2, 1) := by decide +kernel
theorem dX6_removeHole_13 : decode cX6_removeHole 13 = .ok (.aload_n 0, 1) := by decide +kernel
theorem dX6_removeHole_14 : decode cX6_removeHole 14 = .ok (.getfield 58, 3) := by decide +kernel
theorem dX6_removeHole_17 : decode cX6_removeHole 17 = .ok (.if_icmp .ge 37, 3) := by decide +kernel
theorem dX6_removeHole_20 : decode cX6_removeHole 20 = .ok (.aload_n 0, 1) := by decide +kernel
theorem dX6_removeHole_21 : decode cX6_removeHole 21 = .ok (.getfield 33, 3) := by decide +kernel
theorem dX6_removeHole_24 : decode cX6_removeHole 24 = .ok (.iload_n 2, 1) := by decide +kernel
theorem dX6_removeHole_25 : decode cX6_removeHole 25 = .ok (.iconst 1, 1) := by decide +kernel
theorem dX6_removeHole_26 : decode cX6_removeHole 26 = .ok (.isub, 1) := by decide +kernel
theorem dX6_removeHole_27 : decode cX6_removeHole 27 = .ok (.aload_n 0, 1) := by decide +kernel
theorem dX6_removeHole_28 : decode cX6_removeHole 28 = .ok (.getfield 33, 3) := by decide +kernel
theorem dX6_removeHole_31 : decode cX6_removeHole 31 = .ok (.iload_n 2, 1) := by decide +kernel
theorem dX6_removeHole_32 : decode cX6_removeHole 32 = .ok (.iaload, 1) := by decide +kernel
theorem dX6_removeHole_33 : decode cX6_removeHole 33 = .ok (.iastore, 1) := by decide +kernel
theorem dX6_removeHole_34 : decode cX6_removeHole 34 = .ok (.aload_n 0, 1) := by decide +kernel
theorem dX6_removeHole_35 : decode cX6_removeHole 35 = .ok (.getfield 36, 3) := by decide +kernel
theorem dX6_removeHole_38 : decode cX6_removeHole 38 = .ok (.iload_n 2, 1) := by decide +kernel
theorem dX6_removeHole_39 : decode cX6_removeHole 39 = .ok (.iconst 1, 1) := by decide +kernel
theorem dX6_removeHole_40 : decode cX6_removeHole 40 = .ok (.isub, 1) := by decide +kernel
theorem dX6_removeHole_41 : decode cX6_removeHole 41 = .ok (.aload_n 0, 1) := by decide +kernel
theorem dX6_removeHole_42 : decode cX6_removeHole 42 = .ok (.getfield 36, 3) := by decide +kernel
theorem dX6_removeHole_45 : decode cX6_removeHole 45 = .ok (.iload_n 2, 1) := by decide +kernel
theorem dX6_removeHole_46 : decode cX6_removeHole 46 = .ok (.iaload, 1) := by decide +kernel
theorem dX6_removeHole_47 : decode cX6_removeHole 47 = .ok (.iastore, 1) := by decide +kernel
theorem dX6_removeHole_48 : decode cX6_removeHole 48 = .ok (.iinc 2 1, 3) := by decide +kernel
theorem dX6_removeHole_51 : decode cX6_removeHole 51 = .ok (.goto (-39), 3) := by decide +kernel
theorem dX6_removeHole_54 : decode cX6_removeHole 54 = .ok (.aload_n 0, 1) := by decide +kernel
theorem dX6_removeHole_55 : decode cX6_removeHole 55 = .ok (.dup, 1) := by decide +kernel
theorem dX6_removeHole_56 : decode cX6_removeHole 56 = .ok (.getfield 58, 3) := by decide +kernel
theorem dX6_removeHole_59 : decode cX6_removeHole 59 = .ok (.iconst 1, 1) := by decide +kernel
theorem dX6_removeHole_60 : decode cX6_removeHole 60 = .ok (.isub, 1) := by decide +kernel
theorem dX6_removeHole_61 : decode cX6_removeHole 61 = .ok (.putfield 58, 3) := by decide +kernel
theorem dX6_removeHole_64 : decode cX6_removeHole 64 = .ok (.return_, 1) := by decide +kernel
theorem dX6_hasPicture_0 : decode cX6_hasPicture 0 = .ok (.iload_n 1, 1) := by decide +kernel
theorem dX6_hasPicture_1 : decode cX6_hasPicture 1 = .ok (.ifCond .lt 15, 3) := by decide +kernel
theorem dX6_hasPicture_4 : decode cX6_hasPicture 4 = .ok (.iload_n 1, 1) := by decide +kernel
theorem dX6_hasPicture_5 : decode cX6_hasPicture 5 = .ok (.aload_n 0, 1) := by decide +kernel
theorem dX6_hasPicture_6 : decode cX6_hasPicture 6 = .ok (.getfield 52, 3) := by decide +kernel
theorem dX6_hasPicture_9 : decode cX6_hasPicture 9 = .ok (.if_icmp .ge 7, 3) := by decide +kernel
theorem dX6_hasPicture_12 : decode cX6_hasPicture 12 = .ok (.iconst 1, 1) := by decide +kernel
theorem dX6_hasPicture_13 : decode cX6_hasPicture 13 = .ok (.goto 4, 3) := by decide +kernel
theorem dX6_hasPicture_16 : decode cX6_hasPicture 16 = .ok (.iconst 0, 1) := by decide +kernel
theorem dX6_hasPicture_17 : decode cX6_hasPicture 17 = .ok (.ireturn, 1) := by decide +kernel
theorem dX6_hasDoor_0 : decode cX6_hasDoor 0 = .ok (.iload_n 1, 1) := by decide +kernel
theorem dX6_hasDoor_1 : decode cX6_hasDoor 1 = .ok (.ifCond .lt 15, 3) := by decide +kernel
theorem dX6_hasDoor_4 : decode cX6_hasDoor 4 = .ok (.iload_n 1, 1) := by decide +kernel
theorem dX6_hasDoor_5 : decode cX6_hasDoor 5 = .ok (.aload_n 0, 1) := by decide +kernel
theorem dX6_hasDoor_6 : decode cX6_hasDoor 6 = .ok (.getfield 55, 3) := by decide +kernel
theorem dX6_hasDoor_9 : decode cX6_hasDoor 9 = .ok (.if_icmp .ge 7, 3) := by decide +kernel
theorem dX6_hasDoor_12 : decode cX6_hasDoor 12 = .ok (.iconst 1, 1) := by decide +kernel
theorem dX6_hasDoor_13 : decode cX6_hasDoor 13 = .ok (.goto 4, 3) := by decide +kernel
theorem dX6_hasDoor_16 : decode cX6_hasDoor 16 = .ok (.iconst 0, 1) := by decide +kernel
theorem dX6_hasDoor_17 : decode cX6_hasDoor 17 = .ok (.ireturn, 1) := by decide +kernel
theorem dX6_hasHole_0 : decode cX6_hasHole 0 = .ok (.iload_n 1, 1) := by decide +kernel
theorem dX6_hasHole_1 : decode cX6_hasHole 1 = .ok (.ifCond .lt 15, 3) := by decide +kernel
theorem dX6_hasHole_4 : decode cX6_hasHole 4 = .ok (.iload_n 1, 1) := by decide +kernel
theorem dX6_hasHole_5 : decode cX6_hasHole 5 = .ok (.aload_n 0, 1) := by decide +kernel
theorem dX6_hasHole_6 : decode cX6_hasHole 6 = .ok (.getfield 58, 3) := by decide +kernel
theorem dX6_hasHole_9 : decode cX6_hasHole 9 = .ok (.if_icmp .ge 7, 3) := by decide +kernel
theorem dX6_hasHole_12 : decode cX6_hasHole 12 = .ok (.iconst 1, 1) := by decide +kernel
theorem dX6_hasHole_13 : decode cX6_hasHole 13 = .ok (.goto 4, 3) := by decide +kernel
theorem dX6_hasHole_16 : decode cX6_hasHole 16 = .ok (.iconst 0, 1) := by decide +kernel
theorem dX6_hasHole_17 : decode cX6_hasHole 17 = .ok (.ireturn, 1) := by decide +kernel
theorem dX6_isUp_0 : decode cX6_isUp 0 = .ok (.aload_n 0, 1) := by decide +kernel
theorem dX6_isUp_1 : decode cX6_isUp 1 = .ok (.iload_n 1, 1) := by decide +kernel
theorem dX6_isUp_2 : decode cX6_isUp 2 = .ok (.invokevirtual 71, 3) := by decide +kernel
theorem dX6_isUp_5 : decode cX6_isUp 5 = .ok (.ifCond .eq 18, 3) := by decide +kernel
theorem dX6_isUp_8 : decode cX6_isUp 8 = .ok (.aload_n 0, 1) := by decide +kernel
theorem dX6_isUp_9 : decode cX6_isUp 9 = .ok (.getfield 24, 3) := by decide +kernel
theorem dX6_isUp_12 : decode cX6_isUp 12 = .ok (.iload_n 1, 1) := by decide +kernel
theorem dX6_isUp_13 : decode cX6_isUp 13 = .ok (.iaload, 1) := by decide +kernel
theorem dX6_isUp_14 : decode cX6_isUp 14 = .ok (.bipush (-9), 2) := by decide +kernel
theorem dX6_isUp_16 : decode cX6_isUp 16 = .ok (.if_icmp .eq 7, 3) := by decide +kernel
theorem dX6_isUp_19 : decode cX6_isUp 19 = .ok (.iconst 1, 1) := by decide +kernel
theorem dX6_isUp_20 : decode cX6_isUp 20 = .ok (.goto 4, 3) := by decide +kernel
theorem dX6_isUp_23 : decode cX6_isUp 23 = .ok (.iconst 0, 1) := by decide +kernel
theorem dX6_isUp_24 : decode cX6_isUp 24 = .ok (.ireturn, 1) := by decide +kernel
theorem dX6_hookX_0 : decode cX6_hookX 0 = .ok (.aload_n 0, 1) := by decide +kernel
theorem dX6_hookX_1 : decode cX6_hookX 1 = .ok (.iload_n 1, 1) := by decide +kernel
theorem dX6_hookX_2 : decode cX6_hookX 2 = .ok (.invokevirtual 71, 3) := by decide +kernel
theorem dX6_hookX_5 : decode cX6_hookX 5 = .ok (.ifCond .eq 16, 3) := by decide +kernel
theorem dX6_hookX_8 : decode cX6_hookX 8 = .ok (.iconst 2, 1) := by decide +kernel
theorem dX6_hookX_9 : decode cX6_hookX 9 = .ok (.iload_n 2, 1) := by decide +kernel
theorem dX6_hookX_10 : decode cX6_hookX 10 = .ok (.imul, 1) := by decide +kernel
theorem dX6_hookX_11 : decode cX6_hookX 11 = .ok (.aload_n 0, 1) := by decide +kernel
theorem dX6_hookX_12 : decode cX6_hookX 12 = .ok (.getfield 9, 3) := by decide +kernel
theorem dX6_hookX_15 : decode cX6_hookX 15 = .ok (.iload_n 1, 1) := by decide +kernel
theorem dX6_hookX_16 : decode cX6_hookX 16 = .ok (.iaload, 1) := by decide +kernel
theorem dX6_hookX_17 : decode cX6_hookX 17 = .ok (.iadd, 1) := by decide +kernel
theorem dX6_hookX_18 : decode cX6_hookX 18 = .ok (.goto 5, 3) := by decide +kernel
theorem dX6_hookX_21 : decode cX6_hookX 21 = .ok (.bipush (-9), 2) := by decide +kernel
theorem dX6_hookX_23 : decode cX6_hookX 23 = .ok (.ireturn, 1) := by decide +kernel
theorem dX6_hookY_0 : decode cX6_hookY 0 = .ok (.aload_n 0, 1) := by decide +kernel
theorem dX6_hookY_1 : decode cX6_hookY 1 = .ok (.iload_n 1, 1) := by decide +kernel
theorem dX6_hookY_2 : decode cX6_hookY 2 = .ok (.invokevirtual 71, 3) := by decide +kernel
theorem dX6_hookY_5 : decode cX6_hookY 5 = .ok (.ifCond .eq 28, 3) := by decide +kernel
theorem dX6_hookY_8 : decode cX6_hookY 8 = .ok (.iconst 2, 1) := by decide +kernel
theorem dX6_hookY_9 : decode cX6_hookY 9 = .ok (.aload_n 0, 1) := by decide +kernel
theorem dX6_hookY_10 : decode cX6_hookY 10 = .ok (.getfield 46, 3) := by decide +kernel
theorem dX6_hookY_13 : decode cX6_hookY 13 = .ok (.imul, 1) := by decide +kernel
theorem dX6_hookY_14 : decode cX6_hookY 14 = .ok (.aload_n 0, 1) := by decide +kernel
theorem dX6_hookY_15 : decode cX6_hookY 15 = .ok (.getfield 15, 3) := by decide +kernel
theorem dX6_hookY_18 : decode cX6_hookY 18 = .ok (.iload_n 1, 1) := by decide +kernel
theorem dX6_hookY_19 : decode cX6_hookY 19 = .ok (.iaload, 1) := by decide +kernel
theorem dX6_hookY_20 : decode cX6_hookY 20 = .ok (.iadd, 1) := by decide +kernel
theorem dX6_hookY_21 : decode cX6_hookY 21 = .ok (.iconst 2, 1) := by decide +kernel
theorem dX6_hookY_22 : decode cX6_hookY 22 = .ok (.aload_n 0, 1) := by decide +kernel
theorem dX6_hookY_23 : decode cX6_hookY 23 = .ok (.getfield 18, 3) := by decide +kernel
theorem dX6_hookY_26 : decode cX6_hookY 26 = .ok (.iload_n 1, 1) := by decide +kernel
theorem dX6_hookY_27 : decode cX6_hookY 27 = .ok (.iaload, 1) := by decide +kernel
theorem dX6_hookY_28 : decode cX6_hookY 28 = .ok (.imul, 1) := by decide +kernel
theorem dX6_hookY_29 : decode cX6_hookY 29 = .ok (.isub, 1) := by decide +kernel
theorem dX6_hookY_30 : decode cX6_hookY 30 = .ok (.goto 5, 3) := by decide +kernel
theorem dX6_hookY_33 : decode cX6_hookY 33 = .ok (.bipush (-9), 2) := by decide +kernel
theorem dX6_hookY_35 : decode cX6_hookY 35 = .ok (.ireturn, 1) := by decide +kernel
theorem dX6_findHole_0 : decode cX6_findHole 0 = .ok (.iconst 0, 1) := by decide +kernel
theorem dX6_findHole_1 : decode cX6_findHole 1 = .ok (.istore_n 3, 1) := by decide +kernel
theorem dX6_findHole_2 : decode cX6_findHole 2 = .ok (.iload_n 3, 1) := by decide +kernel
theorem dX6_findHole_3 : decode cX6_findHole 3 = .ok (.aload_n 0, 1) := by decide +kernel
theorem dX6_findHole_4 : decode cX6_findHole 4 = .ok (.getfield 58, 3) := by decide +kernel
theorem dX6_findHole_7 : decode cX6_findHole 7 = .ok (.if_icmp .ge 31, 3) := by decide +kernel
theorem dX6_findHole_10 : decode cX6_findHole 10 = .ok (.aload_n 0, 1) := by decide +kernel
theorem dX6_findHole_11 : decode cX6_findHole 11 = .ok (.getfield 33, 3) := by decide +kernel
theorem dX6_findHole_14 : decode cX6_findHole 14 = .ok (.iload_n 3, 1) := by decide +kernel
theorem dX6_findHole_15 : decode cX6_findHole 15 = .ok (.iaload, 1) := by decide +kernel
theorem dX6_findHole_16 : decode cX6_findHole 16 = .ok (.iload_n 1, 1) := by decide +kernel
theorem dX6_findHole_17 : decode cX6_findHole 17 = .ok (.if_icmp .ne 15, 3) := by decide +kernel
theorem dX6_findHole_20 : decode cX6_findHole 20 = .ok (.aload_n 0, 1) := by decide +kernel
theorem dX6_findHole_21 : decode cX6_findHole 21 = .ok (.getfield 36, 3) := by decide +kernel
theorem dX6_findHole_24 : decode cX6_findHole 24 = .ok (.iload_n 3, 1) := by decide +kernel
theorem dX6_findHole_25 : decode cX6_findHole 25 = .ok (.iaload, 1) := by decide +kernel
theorem dX6_findHole_26 : decode cX6_findHole 26 = .ok (.iload_n 2, 1) := by decide +kernel
theorem dX6_findHole_27 : decode cX6_findHole 27 = .ok (.if_icmp .ne 5, 3) := by decide +kernel
theorem dX6_findHole_30 : decode cX6_findHole 30 = .ok (.iload_n 3, 1) := by decide +kernel
theorem dX6_findHole_31 : decode cX6_findHole 31 = .ok (.ireturn, 1) := by decide +kernel
theorem dX6_findHole_32 : decode cX6_findHole 32 = .ok (.iinc 3 1, 3) := by decide +kernel
theorem dX6_findHole_35 : decode cX6_findHole 35 = .ok (.goto (-33), 3) := by decide +kernel
theorem dX6_findHole_38 : decode cX6_findHole 38 = .ok (.bipush (-9), 2) := by decide +kernel
theorem dX6_findHole_40 : decode cX6_findHole 40 = .ok (.ireturn, 1) := by decide +kernel
theorem dX6_hasHoleFor_0 : decode cX6_hasHoleFor 0 = .ok (.aload_n 0, 1) := by decide +kernel
theorem dX6_hasHoleFor_1 : decode cX6_hasHoleFor 1 = .ok (.aload_n 0, 1) := by decide +kernel
theorem dX6_hasHoleFor_2 : decode cX6_hasHoleFor 2 = .ok (.iload_n 1, 1) := by decide +kernel
theorem dX6_hasHoleFor_3 : decode cX6_hasHoleFor 3 = .ok (.iload_n 2, 1) := by decide +kernel
theorem dX6_hasHoleFor_4 : decode cX6_hasHoleFor 4 = .ok (.invokevirtual 74, 3) := by decide +kernel
theorem dX6_hasHoleFor_7 : decode cX6_hasHoleFor 7 = .ok (.aload_n 0, 1) := by decide +kernel
theorem dX6_hasHoleFor_8 : decode cX6_hasHoleFor 8 = .ok (.iload_n 1, 1) := by decide +kernel
theorem dX6_hasHoleFor_9 : decode cX6_hasHoleFor 9 = .ok (.invokevirtual 78, 3) := by decide +kernel
theorem dX6_hasHoleFor_12 : decode cX6_hasHoleFor 12 = .ok (.invokevirtual 82, 3) := by decide +kernel
theorem dX6_hasHoleFor_15 : decode cX6_hasHoleFor 15 = .ok (.ifCond .lt 7, 3) := by decide +kernel
theorem dX6_hasHoleFor_18 : decode cX6_hasHoleFor 18 = .ok (.iconst 1, 1) := by decide +kernel
theorem dX6_hasHoleFor_19 : decode cX6_hasHoleFor 19 = .ok (.goto 4, 3) := by decide +kernel
theorem dX6_hasHoleFor_22 : decode cX6_hasHoleFor 22 = .ok (.iconst 0, 1) := by decide +kernel
theorem dX6_hasHoleFor_23 : decode cX6_hasHoleFor 23 = .ok (.ireturn, 1) := by decide +kernel
theorem dX6_findPictureOn_0 : decode cX6_findPictureOn 0 = .ok (.aload_n 0, 1) := by decide +kernel
theorem dX6_findPictureOn_1 : decode cX6_findPictureOn 1 = .ok (.iload_n 1, 1) := by decide +kernel
theorem dX6_findPictureOn_2 : decode cX6_findPictureOn 2 = .ok (.invokevirtual 67, 3) := by decide +kernel
theorem dX6_findPictureOn_5 : decode cX6_findPictureOn 5 = .ok (.ifCond .ne 6, 3) := by decide +kernel
theorem dX6_findPictureOn_8 : decode cX6_findPictureOn 8 = .ok (.bipush (-9), 2) := by decide +kernel
theorem dX6_findPictureOn_10 : decode cX6_findPictureOn 10 = .ok (.ireturn, 1) := by decide +kernel
theorem dX6_findPictureOn_11 : decode cX6_findPictureOn 11 = .ok (.iconst 0, 1) := by decide +kernel
theorem dX6_findPictureOn_12 : decode cX6_findPictureOn 12 = .ok (.istore_n 2, 1) := by decide +kernel
theorem dX6_findPictureOn_13 : decode cX6_findPictureOn 13 = .ok (.iload_n 2, 1) := by decide +kernel
theorem dX6_findPictureOn_14 : decode cX6_findPictureOn 14 = .ok (.aload_n 0, 1) := by decide +kernel
theorem dX6_findPictureOn_15 : decode cX6_findPictureOn 15 = .ok (.getfield 52, 3) := by decide +kernel
theorem dX6_findPictureOn_18 : decode cX6_findPictureOn 18 = .ok (.if_icmp .ge 56, 3) := by decide +kernel
theorem dX6_findPictureOn_21 : decode cX6_findPictureOn 21 = .ok (.aload_n 0, 1) := by decide +kernel
theorem dX6_findPictureOn_22 : decode cX6_findPictureOn 22 = .ok (.getfield 24, 3) := by decide +kernel
theorem dX6_findPictureOn_25 : decode cX6_findPictureOn 25 = .ok (.iload_n 2, 1) := by decide +kernel
theorem dX6_findPictureOn_26 : decode cX6_findPictureOn 26 = .ok (.iaload, 1) := by decide +kernel
theorem dX6_findPictureOn_27 : decode cX6_findPictureOn 27 = .ok (.bipush (-9), 2) := by decide +kernel
theorem dX6_findPictureOn_29 : decode cX6_findPictureOn 29 = .ok (.if_icmp .eq 39, 3) := by decide +kernel
theorem dX6_findPictureOn_32 : decode cX6_findPictureOn 32 = .ok (.aload_n 0, 1) := by decide +kernel
theorem dX6_findPictureOn_33 : decode cX6_findPictureOn 33 = .ok (.iload_n 2, 1) := by decide +kernel
theorem dX6_findPictureOn_34 : decode cX6_findPictureOn 34 = .ok (.aload_n 0, 1) := by decide +kernel
theorem dX6_findPictureOn_35 : decode cX6_findPictureOn 35 = .ok (.getfield 24, 3) := by decide +kernel
theorem dX6_findPictureOn_38 : decode cX6_findPictureOn 38 = .ok (.iload_n 2, 1) := by decide +kernel
theorem dX6_findPictureOn_39 : decode cX6_findPictureOn 39 = .ok (.iaload, 1) := by decide +kernel
theorem dX6_findPictureOn_40 : decode cX6_findPictureOn 40 = .ok (.invokevirtual 74, 3) := by decide +kernel
theorem dX6_findPictureOn_43 : decode cX6_findPictureOn 43 = .ok (.aload_n 0, 1) := by decide +kernel
theorem dX6_findPictureOn_44 : decode cX6_findPictureOn 44 = .ok (.getfield 33, 3) := by decide +kernel
theorem dX6_findPictureOn_47 : decode cX6_findPictureOn 47 = .ok (.iload_n 1, 1) := by decide +kernel
theorem dX6_findPictureOn_48 : decode cX6_findPictureOn 48 = .ok (.iaload, 1) := by decide +kernel
theorem dX6_findPictureOn_49 : decode cX6_findPictureOn 49 = .ok (.if_icmp .ne 19, 3) := by decide +kernel
theorem dX6_findPictureOn_52 : decode cX6_findPictureOn 52 = .ok (.aload_n 0, 1) := by decide +kernel
theorem dX6_findPictureOn_53 : decode cX6_findPictureOn 53 = .ok (.iload_n 2, 1) := by decide +kernel
theorem dX6_findPictureOn_54 : decode cX6_findPictureOn 54 = .ok (.invokevirtual 78, 3) := by decide +kernel
theorem dX6_findPictureOn_57 : decode cX6_findPictureOn 57 = .ok (.aload_n 0, 1) := by decide +kernel
theorem dX6_findPictureOn_58 : decode cX6_findPictureOn 58 = .ok (.getfield 36, 3) := by decide +kernel
theorem dX6_findPictureOn_61 : decode cX6_findPictureOn 61 = .ok (.iload_n 1, 1) := by decide +kernel
theorem dX6_findPictureOn_62 : decode cX6_findPictureOn 62 = .ok (.iaload, 1) := by decide +kernel
theorem dX6_findPictureOn_63 : decode cX6_findPictureOn 63 = .ok (.if_icmp .ne 5, 3) := by decide +kernel
theorem dX6_findPictureOn_66 : decode cX6_findPictureOn 66 = .ok (.iload_n 2, 1) := by decide +kernel
theorem dX6_findPictureOn_67 : decode cX6_findPictureOn 67 = .ok (.ireturn, 1) := by decide +kernel
theorem dX6_findPictureOn_68 : decode cX6_findPictureOn 68 = .ok (.iinc 2 1, 3) := by decide +kernel
theorem dX6_findPictureOn_71 : decode cX6_findPictureOn 71 = .ok (.goto (-58), 3) := by decide +kernel
theorem dX6_findPictureOn_74 : decode cX6_findPictureOn 74 = .ok (.bipush (-9), 2) := by decide +kernel
theorem dX6_findPictureOn_76 : decode cX6_findPictureOn 76 = .ok (.ireturn, 1) := by decide +kernel
theorem dX6_fits_0 : decode cX6_fits 0 = .ok (.aload_n 0, 1) := by decide +kernel
theorem dX6_fits_1 : decode cX6_fits 1 = .ok (.iload_n 1, 1) := by decide +kernel
theorem dX6_fits_2 : decode cX6_fits 2 = .ok (.invokevirtual 71, 3) := by decide +kernel
theorem dX6_fits_5 : decode cX6_fits 5 = .ok (.ifCond .eq 22, 3) := by decide +kernel
theorem dX6_fits_8 : decode cX6_fits 8 = .ok (.iload_n 2, 1) := by decide +kernel
theorem dX6_fits_9 : decode cX6_fits 9 = .ok (.ifCond .lt 18, 3) := by decide +kernel
theorem dX6_fits_12 : decode cX6_fits 12 = .ok (.iload_n 2, 1) := by decide +kernel
theorem dX6_fits_13 : decode cX6_fits 13 = .ok (.aload_n 0, 1) := by decide +kernel
theorem dX6_fits_14 : decode cX6_fits 14 = .ok (.getfield 9, 3) := by decide +kernel
theorem dX6_fits_17 : decode cX6_fits 17 = .ok (.iload_n 1, 1) := by decide +kernel
theorem dX6_fits_18 : decode cX6_fits 18 = .ok (.iaload, 1) := by decide +kernel
theorem dX6_fits_19 : decode cX6_fits 19 = .ok (.iadd, 1) := by decide +kernel
theorem dX6_fits_20 : decode cX6_fits 20 = .ok (.aload_n 0, 1) := by decide +kernel
theorem dX6_fits_21 : decode cX6_fits 21 = .ok (.getfield 42, 3) := by decide +kernel
theorem dX6_fits_24 : decode cX6_fits 24 = .ok (.if_icmp .le 5, 3) := by decide +kernel
theorem dX6_fits_27 : decode cX6_fits 27 = .ok (.iconst 0, 1) := by decide +kernel
theorem dX6_fits_28 : decode cX6_fits 28 = .ok (.ireturn, 1) := by decide +kernel
theorem dX6_fits_29 : decode cX6_fits 29 = .ok (.iconst 0, 1) := by decide +kernel
theorem dX6_fits_30 : decode cX6_fits 30 = .ok (.istore_n 3, 1) := by decide +kernel
theorem dX6_fits_31 : decode cX6_fits 31 = .ok (.iload_n 3, 1) := by decide +kernel
theorem dX6_fits_32 : decode cX6_fits 32 = .ok (.aload_n 0, 1) := by decide +kernel
theorem dX6_fits_33 : decode cX6_fits 33 = .ok (.getfield 55, 3) := by decide +kernel
theorem dX6_fits_36 : decode cX6_fits 36 = .ok (.if_icmp .ge 38, 3) := by decide +kernel
theorem dX6_fits_39 : decode cX6_fits 39 = .ok (.iload_n 2, 1) := by decide +kernel
theorem dX6_fits_40 : decode cX6_fits 40 = .ok (.aload_n 0, 1) := by decide +kernel
theorem dX6_fits_41 : decode cX6_fits 41 = .ok (.getfield 30, 3) := by decide +kernel
theorem dX6_fits_44 : decode cX6_fits 44 = .ok (.iload_n 3, 1) := by decide +kernel
theorem dX6_fits_45 : decode cX6_fits 45 = .ok (.iaload, 1) := by decide +kernel
theorem dX6_fits_46 : decode cX6_fits 46 = .ok (.if_icmp .ge 22, 3) := by decide +kernel
theorem dX6_fits_49 : decode cX6_fits 49 = .ok (.aload_n 0, 1) := by decide +kernel
theorem dX6_fits_50 : decode cX6_fits 50 = .ok (.getfield 27, 3) := by decide +kernel
theorem dX6_fits_53 : decode cX6_fits 53 = .ok (.iload_n 3, 1) := by decide +kernel
theorem dX6_fits_54 : decode cX6_fits 54 = .ok (.iaload, 1) := by decide +kernel
theorem dX6_fits_55 : decode cX6_fits 55 = .ok (.iload_n 2, 1) := by decide +kernel
theorem dX6_fits_56 : decode cX6_fits 56 = .ok (.aload_n 0, 1) := by decide +kernel
theorem dX6_fits_57 : decode cX6_fits 57 = .ok (.getfield 9, 3) := by decide +kernel
theorem dX6_fits_60 : decode cX6_fits 60 = .ok (.iload_n 1, 1) := by decide +kernel
theorem dX6_fits_61 : decode cX6_fits 61 = .ok (.iaload, 1) := by decide +kernel
theorem dX6_fits_62 : decode cX6_fits 62 = .ok (.iadd, 1) := by decide +kernel
theorem dX6_fits_63 : decode cX6_fits 63 = .ok (.if_icmp .ge 5, 3) := by decide +kernel
theorem dX6_fits_66 : decode cX6_fits 66 = .ok (.iconst 0, 1) := by decide +kernel
theorem dX6_fits_67 : decode cX6_fits 67 = .ok (.ireturn, 1) := by decide +kernel
theorem dX6_fits_68 : decode cX6_fits 68 = .ok (.iinc 3 1, 3) := by decide +kernel
theorem dX6_fits_71 : decode cX6_fits 71 = .ok (.goto (-40), 3) := by decide +kernel
theorem dX6_fits_74 : decode cX6_fits 74 = .ok (.iconst 1, 1) := by decide +kernel
theorem dX6_fits_75 : decode cX6_fits 75 = .ok (.ireturn, 1) := by decide +kernel
theorem dX6_isApartFromAll_0 : decode cX6_isApartFromAll 0 = .ok (.aload_n 0, 1) := by decide +kernel
theorem dX6_isApartFromAll_1 : decode cX6_isApartFromAll 1 = .ok (.iload_n 1, 1) := by decide +kernel
theorem dX6_isApartFromAll_2 : decode cX6_isApartFromAll 2 = .ok (.invokevirtual 71, 3) := by decide +kernel
theorem dX6_isApartFromAll_5 : decode cX6_isApartFromAll 5 = .ok (.ifCond .ne 5, 3) := by decide +kernel
theorem dX6_isApartFromAll_8 : decode cX6_isApartFromAll 8 = .ok (.iconst 0, 1) := by decide +kernel
theorem dX6_isApartFromAll_9 : decode cX6_isApartFromAll 9 = .ok (.ireturn, 1) := by decide +kernel
theorem dX6_isApartFromAll_10 : decode cX6_isApartFromAll 10 = .ok (.iconst 0, 1) := by decide +kernel
theorem dX6_isApartFromAll_11 : decode cX6_isApartFromAll 11 = .ok (.istore_n 3, 1) := by decide +kernel
theorem dX6_isApartFromAll_12 : decode cX6_isApartFromAll 12 = .ok (.iload_n 3, 1) := by decide +kernel
theorem dX6_isApartFromAll_13 : decode cX6_isApartFromAll 13 = .ok (.aload_n 0, 1) := by decide +kernel
theorem dX6_isApartFromAll_14 : decode cX6_isApartFromAll 14 = .ok (.getfield 52, 3) := by decide +kernel
theorem dX6_isApartFromAll_17 : decode cX6_isApartFromAll 17 = .ok (.if_icmp .ge 71, 3) := by decide +kernel
theorem dX6_isApartFromAll_20 : decode cX6_isApartFromAll 20 = .ok (.iload_n 3, 1) := by decide +kernel
theorem dX6_isApartFromAll_21 : decode cX6_isApartFromAll 21 = .ok (.iload_n 1, 1) := by decide +kernel
theorem dX6_isApartFromAll_22 : decode cX6_isApartFromAll 22 = .ok (.if_icmp .eq 60, 3) := by decide +kernel
theorem dX6_isApartFromAll_25 : decode cX6_isApartFromAll 25 = .ok (.aload_n 0, 1) := by decide +kernel
theorem dX6_isApartFromAll_26 : decode cX6_isApartFromAll 26 = .ok (.getfield 24, 3) := by decide +kernel
theorem dX6_isApartFromAll_29 : decode cX6_isApartFromAll 29 = .ok (.iload_n 3, 1) := by decide +kernel
theorem dX6_isApartFromAll_30 : decode cX6_isApartFromAll 30 = .ok (.iaload, 1) := by decide +kernel
theorem dX6_isApartFromAll_31 : decode cX6_isApartFromAll 31 = .ok (.bipush (-9), 2) := by decide +kernel
theorem dX6_isApartFromAll_33 : decode cX6_isApartFromAll 33 = .ok (.if_icmp .eq 49, 3) := by decide +kernel
theorem dX6_isApartFromAll_36 : decode cX6_isApartFromAll 36 = .ok (.iload_n 2, 1) := by decide +kernel
theorem dX6_isApartFromAll_37 : decode cX6_isApartFromAll 37 = .ok (.aload_n 0, 1) := by decide +kernel
theorem dX6_isApartFromAll_38 : decode cX6_isApartFromAll 38 = .ok (.getfield 9, 3) := by decide +kernel
theorem dX6_isApartFromAll_41 : decode cX6_isApartFromAll 41 = .ok (.iload_n 1, 1) := by decide +kernel
theorem dX6_isApartFromAll_42 : decode cX6_isApartFromAll 42 = .ok (.iaload, 1) := by decide +kernel
theorem dX6_isApartFromAll_43 : decode cX6_isApartFromAll 43 = .ok (.iadd, 1) := by decide +kernel
theorem dX6_isApartFromAll_44 : decode cX6_isApartFromAll 44 = .ok (.aload_n 0, 1) := by decide +kernel
theorem dX6_isApartFromAll_45 : decode cX6_isApartFromAll 45 = .ok (.getfield 49, 3) := by decide +kernel
theorem dX6_isApartFromAll_48 : decode cX6_isApartFromAll 48 = .ok (.iadd, 1) := by decide +kernel
theorem dX6_isApartFromAll_49 : decode cX6_isApartFromAll 49 = .ok (.aload_n 0, 1) := by decide +kernel
theorem dX6_isApartFromAll_50 : decode cX6_isApartFromAll 50 = .ok (.getfield 24, 3) := by decide +kernel
theorem dX6_isApartFromAll_53 : decode cX6_isApartFromAll 53 = .ok (.iload_n 3, 1) := by decide +kernel
theorem dX6_isApartFromAll_54 : decode cX6_isApartFromAll 54 = .ok (.iaload, 1) := by decide +kernel
theorem dX6_isApartFromAll_55 : decode cX6_isApartFromAll 55 = .ok (.if_icmp .le 27, 3) := by decide +kernel
theorem dX6_isApartFromAll_58 : decode cX6_isApartFromAll 58 = .ok (.aload_n 0, 1) := by decide +kernel
theorem dX6_isApartFromAll_59 : decode cX6_isApartFromAll 59 = .ok (.getfield 24, 3) := by decide +kernel
theorem dX6_isApartFromAll_62 : decode cX6_isApartFromAll 62 = .ok (.iload_n 3, 1) := by decide +kernel
theorem dX6_isApartFromAll_63 : decode cX6_isApartFromAll 63 = .ok (.iaload, 1) := by decide +kernel
theorem dX6_isApartFromAll_64 : decode cX6_isApartFromAll 64 = .ok (.aload_n 0, 1) := by decide +kernel
theorem dX6_isApartFromAll_65 : decode cX6_isApartFromAll 65 = .ok (.getfield 9, 3) := by decide +kernel
theorem dX6_isApartFromAll_68 : decode cX6_isApartFromAll 68 = .ok (.iload_n 3, 1) := by decide +kernel
theorem dX6_isApartFromAll_69 : decode cX6_isApartFromAll 69 = .ok (.iaload, 1) := by decide +kernel
theorem dX6_isApartFromAll_70 : decode cX6_isApartFromAll 70 = .ok (.iadd, 1) := by decide +kernel
theorem dX6_isApartFromAll_71 : decode cX6_isApartFromAll 71 = .ok (.aload_n 0, 1) := by decide +kernel
theorem dX6_isApartFromAll_72 : decode cX6_isApartFromAll 72 = .ok (.getfield 49, 3) := by decide +kernel
theorem dX6_isApartFromAll_75 : decode cX6_isApartFromAll 75 = .ok (.iadd, 1) := by decide +kernel
theorem dX6_isApartFromAll_76 : decode cX6_isApartFromAll 76 = .ok (.iload_n 2, 1) := by decide +kernel
theorem dX6_isApartFromAll_77 : decode cX6_isApartFromAll 77 = .ok (.if_icmp .le 5, 3) := by decide +kernel
theorem dX6_isApartFromAll_80 : decode cX6_isApartFromAll 80 = .ok (.iconst 0, 1) := by decide +kernel
theorem dX6_isApartFromAll_81 : decode cX6_isApartFromAll 81 = .ok (.ireturn, 1) := by decide +kernel
theorem dX6_isApartFromAll_82 : decode cX6_isApartFromAll 82 = .ok (.iinc 3 1, 3) := by decide +kernel
theorem dX6_isApartFromAll_85 : decode cX6_isApartFromAll 85 = .ok (.goto (-73), 3) := by decide +kernel
theorem dX6_isApartFromAll_88 : decode cX6_isApartFromAll 88 = .ok (.iconst 1, 1) := by decide +kernel
theorem dX6_isApartFromAll_89 : decode cX6_isApartFromAll 89 = .ok (.ireturn, 1) := by decide +kernel
theorem dX6_isFreeFor_0 : decode cX6_isFreeFor 0 = .ok (.aload_n 0, 1) := by decide +kernel
theorem dX6_isFreeFor_1 : decode cX6_isFreeFor 1 = .ok (.iload_n 1, 1) := by decide +kernel
theorem dX6_isFreeFor_2 : decode cX6_isFreeFor 2 = .ok (.iload_n 2, 1) := by decide +kernel
theorem dX6_isFreeFor_3 : decode cX6_isFreeFor 3 = .ok (.invokevirtual 85, 3) := by decide +kernel
theorem dX6_isFreeFor_6 : decode cX6_isFreeFor 6 = .ok (.ifCond .eq 16, 3) := by decide +kernel
theorem dX6_isFreeFor_9 : decode cX6_isFreeFor 9 = .ok (.aload_n 0, 1) := by decide +kernel
theorem dX6_isFreeFor_10 : decode cX6_isFreeFor 10 = .ok (.iload_n 1, 1) := by decide +kernel
theorem dX6_isFreeFor_11 : decode cX6_isFreeFor 11 = .ok (.iload_n 2, 1) := by decide +kernel
theorem dX6_isFreeFor_12 : decode cX6_isFreeFor 12 = .ok (.invokevirtual 89, 3) := by decide +kernel
theorem dX6_isFreeFor_15 : decode cX6_isFreeFor 15 = .ok (.ifCond .eq 7, 3) := by decide +kernel
theorem dX6_isFreeFor_18 : decode cX6_isFreeFor 18 = .ok (.iconst 1, 1) := by decide +kernel
theorem dX6_isFreeFor_19 : decode cX6_isFreeFor 19 = .ok (.goto 4, 3) := by decide +kernel
theorem dX6_isFreeFor_22 : decode cX6_isFreeFor 22 = .ok (.iconst 0, 1) := by decide +kernel
theorem dX6_isFreeFor_23 : decode cX6_isFreeFor 23 = .ok (.ireturn, 1) := by decide +kernel
theorem dX6_putUp_0 : decode cX6_putUp 0 = .ok (.aload_n 0, 1) := by decide +kernel
theorem dX6_putUp_1 : decode cX6_putUp 1 = .ok (.iload_n 1, 1) := by decide +kernel
theorem dX6_putUp_2 : decode cX6_putUp 2 = .ok (.invokevirtual 71, 3) := by decide +kernel
theorem dX6_putUp_5 : decode cX6_putUp 5 = .ok (.ifCond .eq 34, 3) := by decide +kernel
theorem dX6_putUp_8 : decode cX6_putUp 8 = .ok (.aload_n 0, 1) := by decide +kernel
theorem dX6_putUp_9 : decode cX6_putUp 9 = .ok (.getfield 24, 3) := by decide +kernel
theorem dX6_putUp_12 : decode cX6_putUp 12 = .ok (.iload_n 1, 1) := by decide +kernel
theorem dX6_putUp_13 : decode cX6_putUp 13 = .ok (.iload_n 2, 1) := by decide +kernel
theorem dX6_putUp_14 : decode cX6_putUp 14 = .ok (.iastore, 1) := by decide +kernel
theorem dX6_putUp_15 : decode cX6_putUp 15 = .ok (.aload_n 0, 1) := by decide +kernel
theorem dX6_putUp_16 : decode cX6_putUp 16 = .ok (.iload_n 1, 1) := by decide +kernel
theorem dX6_putUp_17 : decode cX6_putUp 17 = .ok (.iload_n 2, 1) := by decide +kernel
theorem dX6_putUp_18 : decode cX6_putUp 18 = .ok (.invokevirtual 92, 3) := by decide +kernel
theorem dX6_putUp_21 : decode cX6_putUp 21 = .ok (.ifCond .ne 18, 3) := by decide +kernel
theorem dX6_putUp_24 : decode cX6_putUp 24 = .ok (.aload_n 0, 1) := by decide +kernel
theorem dX6_putUp_25 : decode cX6_putUp 25 = .ok (.aload_n 0, 1) := by decide +kernel
theorem dX6_putUp_26 : decode cX6_putUp 26 = .ok (.iload_n 1, 1) := by decide +kernel
theorem dX6_putUp_27 : decode cX6_putUp 27 = .ok (.iload_n 2, 1) := by decide +kernel
theorem dX6_putUp_28 : decode cX6_putUp 28 = .ok (.invokevirtual 74, 3) := by decide +kernel
theorem dX6_putUp_31 : decode cX6_putUp 31 = .ok (.aload_n 0, 1) := by decide +kernel
theorem dX6_putUp_32 : decode cX6_putUp 32 = .ok (.iload_n 1, 1) := by decide +kernel
theorem dX6_putUp_33 : decode cX6_putUp 33 = .ok (.invokevirtual 78, 3) := by decide +kernel
theorem dX6_putUp_36 : decode cX6_putUp 36 = .ok (.invokevirtual 95, 3) := by decide +kernel
theorem dX6_putUp_39 : decode cX6_putUp 39 = .ok (.return_, 1) := by decide +kernel
theorem dX6_takeAllDown_0 : decode cX6_takeAllDown 0 = .ok (.iconst 0, 1) := by decide +kernel
theorem dX6_takeAllDown_1 : decode cX6_takeAllDown 1 = .ok (.istore_n 1, 1) := by decide +kernel
theorem dX6_takeAllDown_2 : decode cX6_takeAllDown 2 = .ok (.iload_n 1, 1) := by decide +kernel
theorem dX6_takeAllDown_3 : decode cX6_takeAllDown 3 = .ok (.aload_n 0, 1) := by decide +kernel
theorem dX6_takeAllDown_4 : decode cX6_takeAllDown 4 = .ok (.getfield 52, 3) := by decide +kernel
theorem dX6_takeAllDown_7 : decode cX6_takeAllDown 7 = .ok (.if_icmp .ge 17, 3) := by decide +kernel
theorem dX6_takeAllDown_10 : decode cX6_takeAllDown 10 = .ok (.aload_n 0, 1) := by decide +kernel
theorem dX6_takeAllDown_11 : decode cX6_takeAllDown 11 = .ok (.getfield 24, 3) := by decide +kernel
theorem dX6_takeAllDown_14 : decode cX6_takeAllDown 14 = .ok (.iload_n 1, 1) := by decide +kernel
theorem dX6_takeAllDown_15 : decode cX6_takeAllDown 15 = .ok (.bipush (-9), 2) := by decide +kernel
theorem dX6_takeAllDown_17 : decode cX6_takeAllDown 17 = .ok (.iastore, 1) := by decide +kernel
theorem dX6_takeAllDown_18 : decode cX6_takeAllDown 18 = .ok (.iinc 1 1, 3) := by decide +kernel
theorem dX6_takeAllDown_21 : decode cX6_takeAllDown 21 = .ok (.goto (-19), 3) := by decide +kernel
theorem dX6_takeAllDown_24 : decode cX6_takeAllDown 24 = .ok (.return_, 1) := by decide +kernel
theorem dX6_countUp_0 : decode cX6_countUp 0 = .ok (.iconst 0, 1) := by decide +kernel
theorem dX6_countUp_1 : decode cX6_countUp 1 = .ok (.istore_n 1, 1) := by decide +kernel
theorem dX6_countUp_2 : decode cX6_countUp 2 = .ok (.iconst 0, 1) := by decide +kernel
theorem dX6_countUp_3 : decode cX6_countUp 3 = .ok (.istore_n 2, 1) := by decide +kernel
theorem dX6_countUp_4 : decode cX6_countUp 4 = .ok (.iload_n 2, 1) := by decide +kernel
theorem dX6_countUp_5 : decode cX6_countUp 5 = .ok (.aload_n 0, 1) := by decide +kernel
theorem dX6_countUp_6 : decode cX6_countUp 6 = .ok (.getfield 52, 3) := by decide +kernel
theorem dX6_countUp_9 : decode cX6_countUp 9 = .ok (.if_icmp .ge 23, 3) := by decide +kernel
theorem dX6_countUp_12 : decode cX6_countUp 12 = .ok (.aload_n 0, 1) := by decide +kernel
theorem dX6_countUp_13 : decode cX6_countUp 13 = .ok (.getfield 24, 3) := by decide +kernel
theorem dX6_countUp_16 : decode cX6_countUp 16 = .ok (.iload_n 2, 1) := by decide +kernel
theorem dX6_countUp_17 : decode cX6_countUp 17 = .ok (.iaload, 1) := by decide +kernel
theorem dX6_countUp_18 : decode cX6_countUp 18 = .ok (.bipush (-9), 2) := by decide +kernel
theorem dX6_countUp_20 : decode cX6_countUp 20 = .ok (.if_icmp .eq 6, 3) := by decide +kernel
theorem dX6_countUp_23 : decode cX6_countUp 23 = .ok (.iinc 1 1, 3) := by decide +kernel
theorem dX6_countUp_26 : decode cX6_countUp 26 = .ok (.iinc 2 1, 3) := by decide +kernel
theorem dX6_countUp_29 : decode cX6_countUp 29 = .ok (.goto (-25), 3) := by decide +kernel
theorem dX6_countUp_32 : decode cX6_countUp 32 = .ok (.iload_n 1, 1) := by decide +kernel
theorem dX6_countUp_33 : decode cX6_countUp 33 = .ok (.ireturn, 1) := by decide +kernel
theorem dX6_momentAt_0 : decode cX6_momentAt 0 = .ok (.aload_n 0, 1) := by decide +kernel
theorem dX6_momentAt_1 : decode cX6_momentAt 1 = .ok (.iload_n 1, 1) := by decide +kernel
theorem dX6_momentAt_2 : decode cX6_momentAt 2 = .ok (.invokevirtual 71, 3) := by decide +kernel
theorem dX6_momentAt_5 : decode cX6_momentAt 5 = .ok (.ifCond .eq 24, 3) := by decide +kernel
theorem dX6_momentAt_8 : decode cX6_momentAt 8 = .ok (.aload_n 0, 1) := by decide +kernel
theorem dX6_momentAt_9 : decode cX6_momentAt 9 = .ok (.getfield 21, 3) := by decide +kernel
theorem dX6_momentAt_12 : decode cX6_momentAt 12 = .ok (.iload_n 1, 1) := by decide +kernel
theorem dX6_momentAt_13 : decode cX6_momentAt 13 = .ok (.iaload, 1) := by decide +kernel
theorem dX6_momentAt_14 : decode cX6_momentAt 14 = .ok (.aload_n 0, 1) := by decide +kernel
theorem dX6_momentAt_15 : decode cX6_momentAt 15 = .ok (.iload_n 1, 1) := by decide +kernel
theorem dX6_momentAt_16 : decode cX6_momentAt 16 = .ok (.iload_n 2, 1) := by decide +kernel
theorem dX6_momentAt_17 : decode cX6_momentAt 17 = .ok (.invokevirtual 74, 3) := by decide +kernel
theorem dX6_momentAt_20 : decode cX6_momentAt 20 = .ok (.aload_n 0, 1) := by decide +kernel
theorem dX6_momentAt_21 : decode cX6_momentAt 21 = .ok (.getfield 42, 3) := by decide +kernel
theorem dX6_momentAt_24 : decode cX6_momentAt 24 = .ok (.isub, 1) := by decide +kernel
theorem dX6_momentAt_25 : decode cX6_momentAt 25 = .ok (.imul, 1) := by decide +kernel
theorem dX6_momentAt_26 : decode cX6_momentAt 26 = .ok (.goto 4, 3) := by decide +kernel
theorem dX6_momentAt_29 : decode cX6_momentAt 29 = .ok (.iconst 0, 1) := by decide +kernel
theorem dX6_momentAt_30 : decode cX6_momentAt 30 = .ok (.ireturn, 1) := by decide +kernel
theorem dX6_momentNow_0 : decode cX6_momentNow 0 = .ok (.iconst 0, 1) := by decide +kernel
theorem dX6_momentNow_1 : decode cX6_momentNow 1 = .ok (.istore_n 1, 1) := by decide +kernel
theorem dX6_momentNow_2 : decode cX6_momentNow 2 = .ok (.iconst 0, 1) := by decide +kernel
theorem dX6_momentNow_3 : decode cX6_momentNow 3 = .ok (.istore_n 2, 1) := by decide +kernel
theorem dX6_momentNow_4 : decode cX6_momentNow 4 = .ok (.iload_n 2, 1) := by decide +kernel
theorem dX6_momentNow_5 : decode cX6_momentNow 5 = .ok (.aload_n 0, 1) := by decide +kernel
theorem dX6_momentNow_6 : decode cX6_momentNow 6 = .ok (.getfield 52, 3) := by decide +kernel
theorem dX6_momentNow_9 : decode cX6_momentNow 9 = .ok (.if_icmp .ge 34, 3) := by decide +kernel
theorem dX6_momentNow_12 : decode cX6_momentNow 12 = .ok (.aload_n 0, 1) := by decide +kernel
theorem dX6_momentNow_13 : decode cX6_momentNow 13 = .ok (.getfield 24, 3) := by decide +kernel
theorem dX6_momentNow_16 : decode cX6_momentNow 16 = .ok (.iload_n 2, 1) := by decide +kernel
theorem dX6_momentNow_17 : decode cX6_momentNow 17 = .ok (.iaload, 1) := by decide +kernel
theorem dX6_momentNow_18 : decode cX6_momentNow 18 = .ok (.bipush (-9), 2) := by decide +kernel
theorem dX6_momentNow_20 : decode cX6_momentNow 20 = .ok (.if_icmp .eq 17, 3) := by decide +kernel
theorem dX6_momentNow_23 : decode cX6_momentNow 23 = .ok (.iload_n 1, 1) := by decide +kernel
theorem dX6_momentNow_24 : decode cX6_momentNow 24 = .ok (.aload_n 0, 1) := by decide +kernel
theorem dX6_momentNow_25 : decode cX6_momentNow 25 = .ok (.iload_n 2, 1) := by decide +kernel
theorem dX6_momentNow_26 : decode cX6_momentNow 26 = .ok (.aload_n 0, 1) := by decide +kernel
theorem dX6_momentNow_27 : decode cX6_momentNow 27 = .ok (.getfield 24, 3) := by decide +kernel
theorem dX6_momentNow_30 : decode cX6_momentNow 30 = .ok (.iload_n 2, 1) := by decide +kernel
end
section
theorem dX6_momentNow_31 : decode cX6_momentNow 31 = .ok (.iaload, 1) := by decide +kernel
theorem dX6_momentNow_32 : decode cX6_momentNow 32 = .ok (.invokevirtual 99, 3) := by decide +kernel
theorem dX6_momentNow_35 : decode cX6_momentNow 35 = .ok (.iadd, 1) := by decide +kernel
theorem dX6_momentNow_36 : decode cX6_momentNow 36 = .ok (.istore_n 1, 1) := by decide +kernel
theorem dX6_momentNow_37 : decode cX6_momentNow 37 = .ok (.iinc 2 1, 3) := by decide +kernel
theorem dX6_momentNow_40 : decode cX6_momentNow 40 = .ok (.goto (-36), 3) := by decide +kernel
theorem dX6_momentNow_43 : decode cX6_momentNow 43 = .ok (.iload_n 1, 1) := by decide +kernel
theorem dX6_momentNow_44 : decode cX6_momentNow 44 = .ok (.ireturn, 1) := by decide +kernel
theorem dX6_firstFit_0 : decode cX6_firstFit 0 = .ok (.iload_n 2, 1) := by decide +kernel
theorem dX6_firstFit_1 : decode cX6_firstFit 1 = .ok (.istore_n 3, 1) := by decide +kernel
theorem dX6_firstFit_2 : decode cX6_firstFit 2 = .ok (.iload_n 3, 1) := by decide +kernel
theorem dX6_firstFit_3 : decode cX6_firstFit 3 = .ok (.aload_n 0, 1) := by decide +kernel
theorem dX6_firstFit_4 : decode cX6_firstFit 4 = .ok (.getfield 42, 3) := by decide +kernel
theorem dX6_firstFit_7 : decode cX6_firstFit 7 = .ok (.if_icmp .ge 20, 3) := by decide +kernel
theorem dX6_firstFit_10 : decode cX6_firstFit 10 = .ok (.aload_n 0, 1) := by decide +kernel
theorem dX6_firstFit_11 : decode cX6_firstFit 11 = .ok (.iload_n 1, 1) := by decide +kernel
theorem dX6_firstFit_12 : decode cX6_firstFit 12 = .ok (.iload_n 3, 1) := by decide +kernel
theorem dX6_firstFit_13 : decode cX6_firstFit 13 = .ok (.invokevirtual 85, 3) := by decide +kernel
theorem dX6_firstFit_16 : decode cX6_firstFit 16 = .ok (.ifCond .eq 5, 3) := by decide +kernel
theorem dX6_firstFit_19 : decode cX6_firstFit 19 = .ok (.iload_n 3, 1) := by decide +kernel
theorem dX6_firstFit_20 : decode cX6_firstFit 20 = .ok (.ireturn, 1) := by decide +kernel
theorem dX6_firstFit_21 : decode cX6_firstFit 21 = .ok (.iinc 3 1, 3) := by decide +kernel
theorem dX6_firstFit_24 : decode cX6_firstFit 24 = .ok (.goto (-22), 3) := by decide +kernel
theorem dX6_firstFit_27 : decode cX6_firstFit 27 = .ok (.bipush (-9), 2) := by decide +kernel
theorem dX6_firstFit_29 : decode cX6_firstFit 29 = .ok (.ireturn, 1) := by decide +kernel
theorem dX7_init_0 : decode cX7_init 0 = .ok (.aload_n 0, 1) := by decide +kernel
theorem dX7_init_1 : decode cX7_init 1 = .ok (.invokespecial 1, 3) := by decide +kernel
theorem dX7_init_4 : decode cX7_init 4 = .ok (.aload_n 0, 1) := by decide +kernel
theorem dX7_init_5 : decode cX7_init 5 = .ok (.bipush 120, 2) := by decide +kernel
theorem dX7_init_7 : decode cX7_init 7 = .ok (.newarray .int, 2) := by decide +kernel
theorem dX7_init_9 : decode cX7_init 9 = .ok (.putfield 9, 3) := by decide +kernel
theorem dX7_init_12 : decode cX7_init 12 = .ok (.aload_n 0, 1) := by decide +kernel
theorem dX7_init_13 : decode cX7_init 13 = .ok (.iconst 0, 1) := by decide +kernel
theorem dX7_init_14 : decode cX7_init 14 = .ok (.putfield 13, 3) := by decide +kernel
theorem dX7_init_17 : decode cX7_init 17 = .ok (.aload_n 0, 1) := by decide +kernel
theorem dX7_init_18 : decode cX7_init 18 = .ok (.new 17, 3) := by decide +kernel
theorem dX7_init_21 : decode cX7_init 21 = .ok (.dup, 1) := by decide +kernel
theorem dX7_init_22 : decode cX7_init 22 = .ok (.invokespecial 19, 3) := by decide +kernel
theorem dX7_init_25 : decode cX7_init 25 = .ok (.putfield 20, 3) := by decide +kernel
theorem dX7_init_28 : decode cX7_init 28 = .ok (.aload_n 0, 1) := by decide +kernel
theorem dX7_init_29 : decode cX7_init 29 = .ok (.new 24, 3) := by decide +kernel
theorem dX7_init_32 : decode cX7_init 32 = .ok (.dup, 1) := by decide +kernel
theorem dX7_init_33 : decode cX7_init 33 = .ok (.invokespecial 26, 3) := by decide +kernel
theorem dX7_init_36 : decode cX7_init 36 = .ok (.putfield 27, 3) := by decide +kernel
theorem dX7_init_39 : decode cX7_init 39 = .ok (.aload_n 0, 1) := by decide +kernel
theorem dX7_init_40 : decode cX7_init 40 = .ok (.new 24, 3) := by decide +kernel
theorem dX7_init_43 : decode cX7_init 43 = .ok (.dup, 1) := by decide +kernel
theorem dX7_init_44 : decode cX7_init 44 = .ok (.invokespecial 26, 3) := by decide +kernel
theorem dX7_init_47 : decode cX7_init 47 = .ok (.putfield 31, 3) := by decide +kernel
theorem dX7_init_50 : decode cX7_init 50 = .ok (.aload_n 0, 1) := by decide +kernel
theorem dX7_init_51 : decode cX7_init 51 = .ok (.new 34, 3) := by decide +kernel
theorem dX7_init_54 : decode cX7_init 54 = .ok (.dup, 1) := by decide +kernel
theorem dX7_init_55 : decode cX7_init 55 = .ok (.invokespecial 36, 3) := by decide +kernel
theorem dX7_init_58 : decode cX7_init 58 = .ok (.putfield 37, 3) := by decide +kernel
theorem dX7_init_61 : decode cX7_init 61 = .ok (.aload_n 0, 1) := by decide +kernel
theorem dX7_init_62 : decode cX7_init 62 = .ok (.new 41, 3) := by decide +kernel
theorem dX7_init_65 : decode cX7_init 65 = .ok (.dup, 1) := by decide +kernel
theorem dX7_init_66 : decode cX7_init 66 = .ok (.invokespecial 43, 3) := by decide +kernel
theorem dX7_init_69 : decode cX7_init 69 = .ok (.putfield 44, 3) := by decide +kernel
theorem dX7_init_72 : decode cX7_init 72 = .ok (.aload_n 0, 1) := by decide +kernel
theorem dX7_init_73 : decode cX7_init 73 = .ok (.iconst 0, 1) := by decide +kernel
theorem dX7_init_74 : decode cX7_init 74 = .ok (.putfield 48, 3) := by decide +kernel
theorem dX7_init_77 : decode cX7_init 77 = .ok (.aload_n 0, 1) := by decide +kernel
theorem dX7_init_78 : decode cX7_init 78 = .ok (.new 52, 3) := by decide +kernel
theorem dX7_init_81 : decode cX7_init 81 = .ok (.dup, 1) := by decide +kernel
theorem dX7_init_82 : decode cX7_init 82 = .ok (.invokespecial 54, 3) := by decide +kernel
theorem dX7_init_85 : decode cX7_init 85 = .ok (.putfield 55, 3) := by decide +kernel
theorem dX7_init_88 : decode cX7_init 88 = .ok (.aload_n 0, 1) := by decide +kernel
theorem dX7_init_89 : decode cX7_init 89 = .ok (.new 59, 3) := by decide +kernel
theorem dX7_init_92 : decode cX7_init 92 = .ok (.dup, 1) := by decide +kernel
theorem dX7_init_93 : decode cX7_init 93 = .ok (.invokespecial 61, 3) := by decide +kernel
theorem dX7_init_96 : decode cX7_init 96 = .ok (.putfield 62, 3) := by decide +kernel
theorem dX7_init_99 : decode cX7_init 99 = .ok (.aload_n 0, 1) := by decide +kernel
theorem dX7_init_100 : decode cX7_init 100 = .ok (.iconst 2, 1) := by decide +kernel
theorem dX7_init_101 : decode cX7_init 101 = .ok (.anewarray 24, 3) := by decide +kernel
theorem dX7_init_104 : decode cX7_init 104 = .ok (.putfield 66, 3) := by decide +kernel
theorem dX7_init_107 : decode cX7_init 107 = .ok (.iconst 0, 1) := by decide +kernel
theorem dX7_init_108 : decode cX7_init 108 = .ok (.istore_n 1, 1) := by decide +kernel
theorem dX7_init_109 : decode cX7_init 109 = .ok (.iload_n 1, 1) := by decide +kernel
theorem dX7_init_110 : decode cX7_init 110 = .ok (.iconst 2, 1) := by decide +kernel
theorem dX7_init_111 : decode cX7_init 111 = .ok (.if_icmp .ge 22, 3) := by decide +kernel
theorem dX7_init_114 : decode cX7_init 114 = .ok (.aload_n 0, 1) := by decide +kernel
theorem dX7_init_115 : decode cX7_init 115 = .ok (.getfield 66, 3) := by decide +kernel
theorem dX7_init_118 : decode cX7_init 118 = .ok (.iload_n 1, 1) := by decide +kernel
theorem dX7_init_119 : decode cX7_init 119 = .ok (.new 24, 3) := by decide +kernel
theorem dX7_init_122 : decode cX7_init 122 = .ok (.dup, 1) := by decide +kernel
theorem dX7_init_123 : decode cX7_init 123 = .ok (.invokespecial 26, 3) := by decide +kernel
theorem dX7_init_126 : decode cX7_init 126 = .ok (.aastore, 1) := by decide +kernel
theorem dX7_init_127 : decode cX7_init 127 = .ok (.iinc 1 1, 3) := by decide +kernel
theorem dX7_init_130 : decode cX7_init 130 = .ok (.goto (-21), 3) := by decide +kernel
theorem dX7_init_133 : decode cX7_init 133 = .ok (.aload_n 0, 1) := by decide +kernel
theorem dX7_init_134 : decode cX7_init 134 = .ok (.iconst 2, 1) := by decide +kernel
theorem dX7_init_135 : decode cX7_init 135 = .ok (.newarray .boolean, 2) := by decide +kernel
theorem dX7_init_137 : decode cX7_init 137 = .ok (.putfield 70, 3) := by decide +kernel
theorem dX7_init_140 : decode cX7_init 140 = .ok (.return_, 1) := by decide +kernel
theorem dX7_type_0 : decode cX7_type 0 = .ok (.iload_n 1, 1) := by decide +kernel
theorem dX7_type_1 : decode cX7_type 1 = .ok (.ifCond .lt 10, 3) := by decide +kernel
theorem dX7_type_4 : decode cX7_type 4 = .ok (.iload_n 1, 1) := by decide +kernel
theorem dX7_type_5 : decode cX7_type 5 = .ok (.sipush 255, 3) := by decide +kernel
theorem dX7_type_8 : decode cX7_type 8 = .ok (.if_icmp .le 5, 3) := by decide +kernel
theorem dX7_type_11 : decode cX7_type 11 = .ok (.iconst (-1), 1) := by decide +kernel
theorem dX7_type_12 : decode cX7_type 12 = .ok (.ireturn, 1) := by decide +kernel
theorem dX7_type_13 : decode cX7_type 13 = .ok (.aload_n 0, 1) := by decide +kernel
theorem dX7_type_14 : decode cX7_type 14 = .ok (.getfield 13, 3) := by decide +kernel
theorem dX7_type_17 : decode cX7_type 17 = .ok (.bipush 120, 2) := by decide +kernel
theorem dX7_type_19 : decode cX7_type 19 = .ok (.if_icmp .lt 6, 3) := by decide +kernel
theorem dX7_type_22 : decode cX7_type 22 = .ok (.bipush (-3), 2) := by decide +kernel
theorem dX7_type_24 : decode cX7_type 24 = .ok (.ireturn, 1) := by decide +kernel
theorem dX7_type_25 : decode cX7_type 25 = .ok (.aload_n 0, 1) := by decide +kernel
theorem dX7_type_26 : decode cX7_type 26 = .ok (.getfield 9, 3) := by decide +kernel
theorem dX7_type_29 : decode cX7_type 29 = .ok (.aload_n 0, 1) := by decide +kernel
theorem dX7_type_30 : decode cX7_type 30 = .ok (.getfield 13, 3) := by decide +kernel
theorem dX7_type_33 : decode cX7_type 33 = .ok (.iload_n 1, 1) := by decide +kernel
theorem dX7_type_34 : decode cX7_type 34 = .ok (.iastore, 1) := by decide +kernel
theorem dX7_type_35 : decode cX7_type 35 = .ok (.aload_n 0, 1) := by decide +kernel
theorem dX7_type_36 : decode cX7_type 36 = .ok (.dup, 1) := by decide +kernel
theorem dX7_type_37 : decode cX7_type 37 = .ok (.getfield 13, 3) := by decide +kernel
theorem dX7_type_40 : decode cX7_type 40 = .ok (.iconst 1, 1) := by decide +kernel
theorem dX7_type_41 : decode cX7_type 41 = .ok (.iadd, 1) := by decide +kernel
theorem dX7_type_42 : decode cX7_type 42 = .ok (.putfield 13, 3) := by decide +kernel
theorem dX7_type_45 : decode cX7_type 45 = .ok (.aload_n 0, 1) := by decide +kernel
theorem dX7_type_46 : decode cX7_type 46 = .ok (.getfield 13, 3) := by decide +kernel
theorem dX7_type_49 : decode cX7_type 49 = .ok (.ireturn, 1) := by decide +kernel
theorem dX7_clear_0 : decode cX7_clear 0 = .ok (.aload_n 0, 1) := by decide +kernel
theorem dX7_clear_1 : decode cX7_clear 1 = .ok (.getfield 13, 3) := by decide +kernel
theorem dX7_clear_4 : decode cX7_clear 4 = .ok (.istore_n 1, 1) := by decide +kernel
theorem dX7_clear_5 : decode cX7_clear 5 = .ok (.aload_n 0, 1) := by decide +kernel
theorem dX7_clear_6 : decode cX7_clear 6 = .ok (.iconst 0, 1) := by decide +kernel
theorem dX7_clear_7 : decode cX7_clear 7 = .ok (.putfield 13, 3) := by decide +kernel
theorem dX7_clear_10 : decode cX7_clear 10 = .ok (.iload_n 1, 1) := by decide +kernel
theorem dX7_clear_11 : decode cX7_clear 11 = .ok (.ireturn, 1) := by decide +kernel
theorem dX7_tells_0 : decode cX7_tells 0 = .ok (.aload_n 0, 1) := by decide +kernel
theorem dX7_tells_1 : decode cX7_tells 1 = .ok (.getfield 20, 3) := by decide +kernel
theorem dX7_tells_4 : decode cX7_tells 4 = .ok (.aload_n 0, 1) := by decide +kernel
theorem dX7_tells_5 : decode cX7_tells 5 = .ok (.getfield 31, 3) := by decide +kernel
theorem dX7_tells_8 : decode cX7_tells 8 = .ok (.aload_n 0, 1) := by decide +kernel
theorem dX7_tells_9 : decode cX7_tells 9 = .ok (.getfield 9, 3) := by decide +kernel
theorem dX7_tells_12 : decode cX7_tells 12 = .ok (.aload_n 0, 1) := by decide +kernel
theorem dX7_tells_13 : decode cX7_tells 13 = .ok (.getfield 13, 3) := by decide +kernel
theorem dX7_tells_16 : decode cX7_tells 16 = .ok (.invokevirtual 74, 3) := by decide +kernel
theorem dX7_tells_19 : decode cX7_tells 19 = .ok (.istore_n 1, 1) := by decide +kernel
theorem dX7_tells_20 : decode cX7_tells 20 = .ok (.iload_n 1, 1) := by decide +kernel
theorem dX7_tells_21 : decode cX7_tells 21 = .ok (.ifCond .ge 5, 3) := by decide +kernel
theorem dX7_tells_24 : decode cX7_tells 24 = .ok (.iload_n 1, 1) := by decide +kernel
theorem dX7_tells_25 : decode cX7_tells 25 = .ok (.ireturn, 1) := by decide +kernel
theorem dX7_tells_26 : decode cX7_tells 26 = .ok (.aload_n 0, 1) := by decide +kernel
theorem dX7_tells_27 : decode cX7_tells 27 = .ok (.invokevirtual 78, 3) := by decide +kernel
theorem dX7_tells_30 : decode cX7_tells 30 = .ok (.aload_n 0, 1) := by decide +kernel
theorem dX7_tells_31 : decode cX7_tells 31 = .ok (.getfield 27, 3) := by decide +kernel
theorem dX7_tells_34 : decode cX7_tells 34 = .ok (.aload_n 0, 1) := by decide +kernel
theorem dX7_tells_35 : decode cX7_tells 35 = .ok (.getfield 31, 3) := by decide +kernel
theorem dX7_tells_38 : decode cX7_tells 38 = .ok (.invokevirtual 81, 3) := by decide +kernel
theorem dX7_tells_41 : decode cX7_tells 41 = .ok (.aload_n 0, 1) := by decide +kernel
theorem dX7_tells_42 : decode cX7_tells 42 = .ok (.iconst 0, 1) := by decide +kernel
theorem dX7_tells_43 : decode cX7_tells 43 = .ok (.putfield 13, 3) := by decide +kernel
theorem dX7_tells_46 : decode cX7_tells 46 = .ok (.iload_n 1, 1) := by decide +kernel
theorem dX7_tells_47 : decode cX7_tells 47 = .ok (.ireturn, 1) := by decide +kernel
theorem dX7_hangs_0 : decode cX7_hangs 0 = .ok (.aload_n 0, 1) := by decide +kernel
theorem dX7_hangs_1 : decode cX7_hangs 1 = .ok (.getfield 27, 3) := by decide +kernel
theorem dX7_hangs_4 : decode cX7_hangs 4 = .ok (.iload_n 1, 1) := by decide +kernel
theorem dX7_hangs_5 : decode cX7_hangs 5 = .ok (.invokevirtual 85, 3) := by decide +kernel
theorem dX7_hangs_8 : decode cX7_hangs 8 = .ok (.ifCond .eq 13, 3) := by decide +kernel
theorem dX7_hangs_11 : decode cX7_hangs 11 = .ok (.iload_n 2, 1) := by decide +kernel
theorem dX7_hangs_12 : decode cX7_hangs 12 = .ok (.ifCond .lt 9, 3) := by decide +kernel
theorem dX7_hangs_15 : decode cX7_hangs 15 = .ok (.iload_n 2, 1) := by decide +kernel
theorem dX7_hangs_16 : decode cX7_hangs 16 = .ok (.bipush 40, 2) := by decide +kernel
theorem dX7_hangs_18 : decode cX7_hangs 18 = .ok (.if_icmp .lt 5, 3) := by decide +kernel
theorem dX7_hangs_21 : decode cX7_hangs 21 = .ok (.iconst (-1), 1) := by decide +kernel
theorem dX7_hangs_22 : decode cX7_hangs 22 = .ok (.ireturn, 1) := by decide +kernel
theorem dX7_hangs_23 : decode cX7_hangs 23 = .ok (.aload_n 0, 1) := by decide +kernel
theorem dX7_hangs_24 : decode cX7_hangs 24 = .ok (.getfield 27, 3) := by decide +kernel
theorem dX7_hangs_27 : decode cX7_hangs 27 = .ok (.iload_n 1, 1) := by decide +kernel
theorem dX7_hangs_28 : decode cX7_hangs 28 = .ok (.invokevirtual 89, 3) := by decide +kernel
theorem dX7_hangs_31 : decode cX7_hangs 31 = .ok (.ifCond .ne 15, 3) := by decide +kernel
theorem dX7_hangs_34 : decode cX7_hangs 34 = .ok (.aload_n 0, 1) := by decide +kernel
theorem dX7_hangs_35 : decode cX7_hangs 35 = .ok (.getfield 27, 3) := by decide +kernel
theorem dX7_hangs_38 : decode cX7_hangs 38 = .ok (.iload_n 1, 1) := by decide +kernel
theorem dX7_hangs_39 : decode cX7_hangs 39 = .ok (.iload_n 2, 1) := by decide +kernel
theorem dX7_hangs_40 : decode cX7_hangs 40 = .ok (.invokevirtual 92, 3) := by decide +kernel
theorem dX7_hangs_43 : decode cX7_hangs 43 = .ok (.ifCond .ne 6, 3) := by decide +kernel
theorem dX7_hangs_46 : decode cX7_hangs 46 = .ok (.bipush (-2), 2) := by decide +kernel
theorem dX7_hangs_48 : decode cX7_hangs 48 = .ok (.ireturn, 1) := by decide +kernel
theorem dX7_hangs_49 : decode cX7_hangs 49 = .ok (.aload_n 0, 1) := by decide +kernel
theorem dX7_hangs_50 : decode cX7_hangs 50 = .ok (.getfield 27, 3) := by decide +kernel
theorem dX7_hangs_53 : decode cX7_hangs 53 = .ok (.iload_n 1, 1) := by decide +kernel
theorem dX7_hangs_54 : decode cX7_hangs 54 = .ok (.iload_n 2, 1) := by decide +kernel
theorem dX7_hangs_55 : decode cX7_hangs 55 = .ok (.invokevirtual 96, 3) := by decide +kernel
theorem dX7_hangs_58 : decode cX7_hangs 58 = .ok (.ifCond .ne 7, 3) := by decide +kernel
theorem dX7_hangs_61 : decode cX7_hangs 61 = .ok (.iconst 1, 1) := by decide +kernel
theorem dX7_hangs_62 : decode cX7_hangs 62 = .ok (.goto 4, 3) := by decide +kernel
theorem dX7_hangs_65 : decode cX7_hangs 65 = .ok (.iconst 0, 1) := by decide +kernel
theorem dX7_hangs_66 : decode cX7_hangs 66 = .ok (.istore_n 3, 1) := by decide +kernel
theorem dX7_hangs_67 : decode cX7_hangs 67 = .ok (.iload_n 3, 1) := by decide +kernel
theorem dX7_hangs_68 : decode cX7_hangs 68 = .ok (.ifCond .eq 18, 3) := by decide +kernel
theorem dX7_hangs_71 : decode cX7_hangs 71 = .ok (.aload_n 0, 1) := by decide +kernel
theorem dX7_hangs_72 : decode cX7_hangs 72 = .ok (.getfield 27, 3) := by decide +kernel
theorem dX7_hangs_75 : decode cX7_hangs 75 = .ok (.getfield 99, 3) := by decide +kernel
theorem dX7_hangs_78 : decode cX7_hangs 78 = .ok (.bipush 16, 2) := by decide +kernel
theorem dX7_hangs_80 : decode cX7_hangs 80 = .ok (.if_icmp .lt 6, 3) := by decide +kernel
theorem dX7_hangs_83 : decode cX7_hangs 83 = .ok (.bipush (-3), 2) := by decide +kernel
theorem dX7_hangs_85 : decode cX7_hangs 85 = .ok (.ireturn, 1) := by decide +kernel
theorem dX7_hangs_86 : decode cX7_hangs 86 = .ok (.aload_n 0, 1) := by decide +kernel
theorem dX7_hangs_87 : decode cX7_hangs 87 = .ok (.invokevirtual 78, 3) := by decide +kernel
theorem dX7_hangs_90 : decode cX7_hangs 90 = .ok (.aload_n 0, 1) := by decide +kernel
theorem dX7_hangs_91 : decode cX7_hangs 91 = .ok (.getfield 27, 3) := by decide +kernel
theorem dX7_hangs_94 : decode cX7_hangs 94 = .ok (.iload_n 1, 1) := by decide +kernel
theorem dX7_hangs_95 : decode cX7_hangs 95 = .ok (.iload_n 2, 1) := by decide +kernel
theorem dX7_hangs_96 : decode cX7_hangs 96 = .ok (.invokevirtual 102, 3) := by decide +kernel
theorem dX7_hangs_99 : decode cX7_hangs 99 = .ok (.iload_n 3, 1) := by decide +kernel
theorem dX7_hangs_100 : decode cX7_hangs 100 = .ok (.ifCond .eq 7, 3) := by decide +kernel
theorem dX7_hangs_103 : decode cX7_hangs 103 = .ok (.iconst 1, 1) := by decide +kernel
theorem dX7_hangs_104 : decode cX7_hangs 104 = .ok (.goto 4, 3) := by decide +kernel
theorem dX7_hangs_107 : decode cX7_hangs 107 = .ok (.iconst 0, 1) := by decide +kernel
theorem dX7_hangs_108 : decode cX7_hangs 108 = .ok (.ireturn, 1) := by decide +kernel
theorem dX7_takes_0 : decode cX7_takes 0 = .ok (.aload_n 0, 1) := by decide +kernel
theorem dX7_takes_1 : decode cX7_takes 1 = .ok (.getfield 27, 3) := by decide +kernel
theorem dX7_takes_4 : decode cX7_takes 4 = .ok (.iload_n 1, 1) := by decide +kernel
theorem dX7_takes_5 : decode cX7_takes 5 = .ok (.invokevirtual 85, 3) := by decide +kernel
theorem dX7_takes_8 : decode cX7_takes 8 = .ok (.ifCond .ne 5, 3) := by decide +kernel
theorem dX7_takes_11 : decode cX7_takes 11 = .ok (.iconst (-1), 1) := by decide +kernel
theorem dX7_takes_12 : decode cX7_takes 12 = .ok (.ireturn, 1) := by decide +kernel
theorem dX7_takes_13 : decode cX7_takes 13 = .ok (.aload_n 0, 1) := by decide +kernel
theorem dX7_takes_14 : decode cX7_takes 14 = .ok (.getfield 27, 3) := by decide +kernel
theorem dX7_takes_17 : decode cX7_takes 17 = .ok (.iload_n 1, 1) := by decide +kernel
theorem dX7_takes_18 : decode cX7_takes 18 = .ok (.invokevirtual 89, 3) := by decide +kernel
theorem dX7_takes_21 : decode cX7_takes 21 = .ok (.ifCond .ne 6, 3) := by decide +kernel
theorem dX7_takes_24 : decode cX7_takes 24 = .ok (.bipush (-2), 2) := by decide +kernel
theorem dX7_takes_26 : decode cX7_takes 26 = .ok (.ireturn, 1) := by decide +kernel
theorem dX7_takes_27 : decode cX7_takes 27 = .ok (.aload_n 0, 1) := by decide +kernel
theorem dX7_takes_28 : decode cX7_takes 28 = .ok (.invokevirtual 78, 3) := by decide +kernel
theorem dX7_takes_31 : decode cX7_takes 31 = .ok (.aload_n 0, 1) := by decide +kernel
theorem dX7_takes_32 : decode cX7_takes 32 = .ok (.getfield 27, 3) := by decide +kernel
theorem dX7_takes_35 : decode cX7_takes 35 = .ok (.getfield 106, 3) := by decide +kernel
theorem dX7_takes_38 : decode cX7_takes 38 = .ok (.iload_n 1, 1) := by decide +kernel
theorem dX7_takes_39 : decode cX7_takes 39 = .ok (.iaload, 1) := by decide +kernel
theorem dX7_takes_40 : decode cX7_takes 40 = .ok (.istore_n 2, 1) := by decide +kernel
theorem dX7_takes_41 : decode cX7_takes 41 = .ok (.aload_n 0, 1) := by decide +kernel
theorem dX7_takes_42 : decode cX7_takes 42 = .ok (.getfield 27, 3) := by decide +kernel
theorem dX7_takes_45 : decode cX7_takes 45 = .ok (.getfield 106, 3) := by decide +kernel
theorem dX7_takes_48 : decode cX7_takes 48 = .ok (.iload_n 1, 1) := by decide +kernel
theorem dX7_takes_49 : decode cX7_takes 49 = .ok (.bipush (-9), 2) := by decide +kernel
theorem dX7_takes_51 : decode cX7_takes 51 = .ok (.iastore, 1) := by decide +kernel
theorem dX7_takes_52 : decode cX7_takes 52 = .ok (.iload_n 2, 1) := by decide +kernel
theorem dX7_takes_53 : decode cX7_takes 53 = .ok (.ireturn, 1) := by decide +kernel
theorem dX7_fills_0 : decode cX7_fills 0 = .ok (.aload_n 0, 1) := by decide +kernel
theorem dX7_fills_1 : decode cX7_fills 1 = .ok (.getfield 27, 3) := by decide +kernel
theorem dX7_fills_4 : decode cX7_fills 4 = .ok (.iload_n 1, 1) := by decide +kernel
theorem dX7_fills_5 : decode cX7_fills 5 = .ok (.invokevirtual 109, 3) := by decide +kernel
theorem dX7_fills_8 : decode cX7_fills 8 = .ok (.ifCond .ne 5, 3) := by decide +kernel
theorem dX7_fills_11 : decode cX7_fills 11 = .ok (.iconst (-1), 1) := by decide +kernel
theorem dX7_fills_12 : decode cX7_fills 12 = .ok (.ireturn, 1) := by decide +kernel
theorem dX7_fills_13 : decode cX7_fills 13 = .ok (.aload_n 0, 1) := by decide +kernel
theorem dX7_fills_14 : decode cX7_fills 14 = .ok (.getfield 27, 3) := by decide +kernel
theorem dX7_fills_17 : decode cX7_fills 17 = .ok (.iload_n 1, 1) := by decide +kernel
theorem dX7_fills_18 : decode cX7_fills 18 = .ok (.invokevirtual 112, 3) := by decide +kernel
theorem dX7_fills_21 : decode cX7_fills 21 = .ok (.bipush (-9), 2) := by decide +kernel
theorem dX7_fills_23 : decode cX7_fills 23 = .ok (.if_icmp .eq 6, 3) := by decide +kernel
theorem dX7_fills_26 : decode cX7_fills 26 = .ok (.bipush (-2), 2) := by decide +kernel
theorem dX7_fills_28 : decode cX7_fills 28 = .ok (.ireturn, 1) := by decide +kernel
theorem dX7_fills_29 : decode cX7_fills 29 = .ok (.aload_n 0, 1) := by decide +kernel
theorem dX7_fills_30 : decode cX7_fills 30 = .ok (.invokevirtual 78, 3) := by decide +kernel
theorem dX7_fills_33 : decode cX7_fills 33 = .ok (.aload_n 0, 1) := by decide +kernel
theorem dX7_fills_34 : decode cX7_fills 34 = .ok (.getfield 27, 3) := by decide +kernel
theorem dX7_fills_37 : decode cX7_fills 37 = .ok (.iload_n 1, 1) := by decide +kernel
theorem dX7_fills_38 : decode cX7_fills 38 = .ok (.invokevirtual 116, 3) := by decide +kernel
theorem dX7_fills_41 : decode cX7_fills 41 = .ok (.aload_n 0, 1) := by decide +kernel
theorem dX7_fills_42 : decode cX7_fills 42 = .ok (.getfield 27, 3) := by decide +kernel
theorem dX7_fills_45 : decode cX7_fills 45 = .ok (.getfield 99, 3) := by decide +kernel
theorem dX7_fills_48 : decode cX7_fills 48 = .ok (.ireturn, 1) := by decide +kernel
theorem dX7_lines_0 : decode cX7_lines 0 = .ok (.iload_n 1, 1) := by decide +kernel
theorem dX7_lines_1 : decode cX7_lines 1 = .ok (.iconst 5, 1) := by decide +kernel
theorem dX7_lines_2 : decode cX7_lines 2 = .ok (.if_icmp .lt 9, 3) := by decide +kernel
theorem dX7_lines_5 : decode cX7_lines 5 = .ok (.iload_n 1, 1) := by decide +kernel
theorem dX7_lines_6 : decode cX7_lines 6 = .ok (.bipush 20, 2) := by decide +kernel
theorem dX7_lines_8 : decode cX7_lines 8 = .ok (.if_icmp .le 5, 3) := by decide +kernel
theorem dX7_lines_11 : decode cX7_lines 11 = .ok (.iconst (-1), 1) := by decide +kernel
theorem dX7_lines_12 : decode cX7_lines 12 = .ok (.ireturn, 1) := by decide +kernel
theorem dX7_lines_13 : decode cX7_lines 13 = .ok (.iload_n 1, 1) := by decide +kernel
theorem dX7_lines_14 : decode cX7_lines 14 = .ok (.aload_n 0, 1) := by decide +kernel
theorem dX7_lines_15 : decode cX7_lines 15 = .ok (.getfield 27, 3) := by decide +kernel
theorem dX7_lines_18 : decode cX7_lines 18 = .ok (.getfield 120, 3) := by decide +kernel
theorem dX7_lines_21 : decode cX7_lines 21 = .ok (.if_icmp .ne 6, 3) := by decide +kernel
theorem dX7_lines_24 : decode cX7_lines 24 = .ok (.bipush (-2), 2) := by decide +kernel
theorem dX7_lines_26 : decode cX7_lines 26 = .ok (.ireturn, 1) := by decide +kernel
theorem dX7_lines_27 : decode cX7_lines 27 = .ok (.aload_n 0, 1) := by decide +kernel
theorem dX7_lines_28 : decode cX7_lines 28 = .ok (.invokevirtual 78, 3) := by decide +kernel
theorem dX7_lines_31 : decode cX7_lines 31 = .ok (.aload_n 0, 1) := by decide +kernel
theorem dX7_lines_32 : decode cX7_lines 32 = .ok (.getfield 27, 3) := by decide +kernel
theorem dX7_lines_35 : decode cX7_lines 35 = .ok (.getfield 120, 3) := by decide +kernel
theorem dX7_lines_38 : decode cX7_lines 38 = .ok (.istore_n 2, 1) := by decide +kernel
theorem dX7_lines_39 : decode cX7_lines 39 = .ok (.aload_n 0, 1) := by decide +kernel
theorem dX7_lines_40 : decode cX7_lines 40 = .ok (.getfield 27, 3) := by decide +kernel
theorem dX7_lines_43 : decode cX7_lines 43 = .ok (.iload_n 1, 1) := by decide +kernel
theorem dX7_lines_44 : decode cX7_lines 44 = .ok (.putfield 120, 3) := by decide +kernel
theorem dX7_lines_47 : decode cX7_lines 47 = .ok (.aload_n 0, 1) := by decide +kernel
theorem dX7_lines_48 : decode cX7_lines 48 = .ok (.getfield 27, 3) := by decide +kernel
theorem dX7_lines_51 : decode cX7_lines 51 = .ok (.invokevirtual 123, 3) := by decide +kernel
theorem dX7_lines_54 : decode cX7_lines 54 = .ok (.iload_n 2, 1) := by decide +kernel
theorem dX7_lines_55 : decode cX7_lines 55 = .ok (.ireturn, 1) := by decide +kernel
theorem dX7_undo_0 : decode cX7_undo 0 = .ok (.aload_n 0, 1) := by decide +kernel
theorem dX7_undo_1 : decode cX7_undo 1 = .ok (.getfield 37, 3) := by decide +kernel
theorem dX7_undo_4 : decode cX7_undo 4 = .ok (.aload_n 0, 1) := by decide +kernel
theorem dX7_undo_5 : decode cX7_undo 5 = .ok (.getfield 27, 3) := by decide +kernel
theorem dX7_undo_8 : decode cX7_undo 8 = .ok (.invokevirtual 126, 3) := by decide +kernel
theorem dX7_undo_11 : decode cX7_undo 11 = .ok (.ifCond .ne 6, 3) := by decide +kernel
theorem dX7_undo_14 : decode cX7_undo 14 = .ok (.bipush (-2), 2) := by decide +kernel
theorem dX7_undo_16 : decode cX7_undo 16 = .ok (.ireturn, 1) := by decide +kernel
theorem dX7_undo_17 : decode cX7_undo 17 = .ok (.aload_n 0, 1) := by decide +kernel
theorem dX7_undo_18 : decode cX7_undo 18 = .ok (.iconst 0, 1) := by decide +kernel
theorem dX7_undo_19 : decode cX7_undo 19 = .ok (.putfield 48, 3) := by decide +kernel
theorem dX7_undo_22 : decode cX7_undo 22 = .ok (.aload_n 0, 1) := by decide +kernel
theorem dX7_undo_23 : decode cX7_undo 23 = .ok (.getfield 37, 3) := by decide +kernel
theorem dX7_undo_26 : decode cX7_undo 26 = .ok (.getfield 130, 3) := by decide +kernel
theorem dX7_undo_29 : decode cX7_undo 29 = .ok (.ireturn, 1) := by decide +kernel
theorem dX7_picture_0 : decode cX7_picture 0 = .ok (.aload_n 0, 1) := by decide +kernel
theorem dX7_picture_1 : decode cX7_picture 1 = .ok (.getfield 27, 3) := by decide +kernel
theorem dX7_picture_4 : decode cX7_picture 4 = .ok (.iload_n 1, 1) := by decide +kernel
theorem dX7_picture_5 : decode cX7_picture 5 = .ok (.invokevirtual 85, 3) := by decide +kernel
theorem dX7_picture_8 : decode cX7_picture 8 = .ok (.ifCond .ne 6, 3) := by decide +kernel
theorem dX7_picture_11 : decode cX7_picture 11 = .ok (.ldc 133, 2) := by decide +kernel
theorem dX7_picture_13 : decode cX7_picture 13 = .ok (.ireturn, 1) := by decide +kernel
theorem dX7_picture_14 : decode cX7_picture 14 = .ok (.iload_n 2, 1) := by decide +kernel
theorem dX7_picture_15 : decode cX7_picture 15 = .ok (.tableswitch 96 0 5 #[37, 47, 57, 67, 77, 87], 37) := by decide +kernel
theorem dX7_picture_52 : decode cX7_picture 52 = .ok (.aload_n 0, 1) := by decide +kernel
theorem dX7_picture_53 : decode cX7_picture 53 = .ok (.getfield 27, 3) := by decide +kernel
theorem dX7_picture_56 : decode cX7_picture 56 = .ok (.getfield 134, 3) := by decide +kernel
theorem dX7_picture_59 : decode cX7_picture 59 = .ok (.iload_n 1, 1) := by decide +kernel
theorem dX7_picture_60 : decode cX7_picture 60 = .ok (.iaload, 1) := by decide +kernel
theorem dX7_picture_61 : decode cX7_picture 61 = .ok (.ireturn, 1) := by decide +kernel
theorem dX7_picture_62 : decode cX7_picture 62 = .ok (.aload_n 0, 1) := by decide +kernel
theorem dX7_picture_63 : decode cX7_picture 63 = .ok (.getfield 27, 3) := by decide +kernel
theorem dX7_picture_66 : decode cX7_picture 66 = .ok (.getfield 137, 3) := by decide +kernel
theorem dX7_picture_69 : decode cX7_picture 69 = .ok (.iload_n 1, 1) := by decide +kernel
theorem dX7_picture_70 : decode cX7_picture 70 = .ok (.iaload, 1) := by decide +kernel
theorem dX7_picture_71 : decode cX7_picture 71 = .ok (.ireturn, 1) := by decide +kernel
theorem dX7_picture_72 : decode cX7_picture 72 = .ok (.aload_n 0, 1) := by decide +kernel
theorem dX7_picture_73 : decode cX7_picture 73 = .ok (.getfield 27, 3) := by decide +kernel
theorem dX7_picture_76 : decode cX7_picture 76 = .ok (.getfield 140, 3) := by decide +kernel
theorem dX7_picture_79 : decode cX7_picture 79 = .ok (.iload_n 1, 1) := by decide +kernel
theorem dX7_picture_80 : decode cX7_picture 80 = .ok (.iaload, 1) := by decide +kernel
theorem dX7_picture_81 : decode cX7_picture 81 = .ok (.ireturn, 1) := by decide +kernel
theorem dX7_picture_82 : decode cX7_picture 82 = .ok (.aload_n 0, 1) := by decide +kernel
theorem dX7_picture_83 : decode cX7_picture 83 = .ok (.getfield 27, 3) := by decide +kernel
theorem dX7_picture_86 : decode cX7_picture 86 = .ok (.getfield 143, 3) := by decide +kernel
theorem dX7_picture_89 : decode cX7_picture 89 = .ok (.iload_n 1, 1) := by decide +kernel
theorem dX7_picture_90 : decode cX7_picture 90 = .ok (.iaload, 1) := by decide +kernel
theorem dX7_picture_91 : decode cX7_picture 91 = .ok (.ireturn, 1) := by decide +kernel
theorem dX7_picture_92 : decode cX7_picture 92 = .ok (.aload_n 0, 1) := by decide +kernel
theorem dX7_picture_93 : decode cX7_picture 93 = .ok (.getfield 27, 3) := by decide +kernel
theorem dX7_picture_96 : decode cX7_picture 96 = .ok (.getfield 106, 3) := by decide +kernel
theorem dX7_picture_99 : decode cX7_picture 99 = .ok (.iload_n 1, 1) := by decide +kernel
theorem dX7_picture_100 : decode cX7_picture 100 = .ok (.iaload, 1) := by decide +kernel
theorem dX7_picture_101 : decode cX7_picture 101 = .ok (.ireturn, 1) := by decide +kernel
theorem dX7_picture_102 : decode cX7_picture 102 = .ok (.aload_n 0, 1) := by decide +kernel
theorem dX7_picture_103 : decode cX7_picture 103 = .ok (.getfield 27, 3) := by decide +kernel
theorem dX7_picture_106 : decode cX7_picture 106 = .ok (.iload_n 1, 1) := by decide +kernel
theorem dX7_picture_107 : decode cX7_picture 107 = .ok (.invokevirtual 146, 3) := by decide +kernel
theorem dX7_picture_110 : decode cX7_picture 110 = .ok (.ireturn, 1) := by decide +kernel
theorem dX7_picture_111 : decode cX7_picture 111 = .ok (.ldc 133, 2) := by decide +kernel
theorem dX7_picture_113 : decode cX7_picture 113 = .ok (.ireturn, 1) := by decide +kernel
theorem dX7_hole_0 : decode cX7_hole 0 = .ok (.aload_n 0, 1) := by decide +kernel
theorem dX7_hole_1 : decode cX7_hole 1 = .ok (.getfield 27, 3) := by decide +kernel
theorem dX7_hole_4 : decode cX7_hole 4 = .ok (.iload_n 1, 1) := by decide +kernel
theorem dX7_hole_5 : decode cX7_hole 5 = .ok (.invokevirtual 109, 3) := by decide +kernel
theorem dX7_hole_8 : decode cX7_hole 8 = .ok (.ifCond .ne 6, 3) := by decide +kernel
theorem dX7_hole_11 : decode cX7_hole 11 = .ok (.ldc 133, 2) := by decide +kernel
theorem dX7_hole_13 : decode cX7_hole 13 = .ok (.ireturn, 1) := by decide +kernel
theorem dX7_hole_14 : decode cX7_hole 14 = .ok (.iload_n 2, 1) := by decide +kernel
theorem dX7_hole_15 : decode cX7_hole 15 = .ok (.tableswitch 54 0 2 #[25, 35, 45], 25) := by decide +kernel
theorem dX7_hole_40 : decode cX7_hole 40 = .ok (.aload_n 0, 1) := by decide +kernel
theorem dX7_hole_41 : decode cX7_hole 41 = .ok (.getfield 27, 3) := by decide +kernel
theorem dX7_hole_44 : decode cX7_hole 44 = .ok (.getfield 149, 3) := by decide +kernel
theorem dX7_hole_47 : decode cX7_hole 47 = .ok (.iload_n 1, 1) := by decide +kernel
theorem dX7_hole_48 : decode cX7_hole 48 = .ok (.iaload, 1) := by decide +kernel
theorem dX7_hole_49 : decode cX7_hole 49 = .ok (.ireturn, 1) := by decide +kernel
theorem dX7_hole_50 : decode cX7_hole 50 = .ok (.aload_n 0, 1) := by decide +kernel
theorem dX7_hole_51 : decode cX7_hole 51 = .ok (.getfield 27, 3) := by decide +kernel
theorem dX7_hole_54 : decode cX7_hole 54 = .ok (.getfield 152, 3) := by decide +kernel
theorem dX7_hole_57 : decode cX7_hole 57 = .ok (.iload_n 1, 1) := by decide +kernel
theorem dX7_hole_58 : decode cX7_hole 58 = .ok (.iaload, 1) := by decide +kernel
theorem dX7_hole_59 : decode cX7_hole 59 = .ok (.ireturn, 1) := by decide +kernel
theorem dX7_hole_60 : decode cX7_hole 60 = .ok (.aload_n 0, 1) := by decide +kernel
theorem dX7_hole_61 : decode cX7_hole 61 = .ok (.getfield 27, 3) := by decide +kernel
theorem dX7_hole_64 : decode cX7_hole 64 = .ok (.iload_n 1, 1) := by decide +kernel
theorem dX7_hole_65 : decode cX7_hole 65 = .ok (.invokevirtual 112, 3) := by decide +kernel
theorem dX7_hole_68 : decode cX7_hole 68 = .ok (.ireturn, 1) := by decide +kernel
theorem dX7_hole_69 : decode cX7_hole 69 = .ok (.ldc 133, 2) := by decide +kernel
theorem dX7_hole_71 : decode cX7_hole 71 = .ok (.ireturn, 1) := by decide +kernel
theorem dX7_door_0 : decode cX7_door 0 = .ok (.aload_n 0, 1) := by decide +kernel
theorem dX7_door_1 : decode cX7_door 1 = .ok (.getfield 27, 3) := by decide +kernel
theorem dX7_door_4 : decode cX7_door 4 = .ok (.iload_n 1, 1) := by decide +kernel
theorem dX7_door_5 : decode cX7_door 5 = .ok (.invokevirtual 155, 3) := by decide +kernel
theorem dX7_door_8 : decode cX7_door 8 = .ok (.ifCond .ne 5, 3) := by decide +kernel
theorem dX7_door_11 : decode cX7_door 11 = .ok (.iconst (-1), 1) := by decide +kernel
theorem dX7_door_12 : decode cX7_door 12 = .ok (.ireturn, 1) := by decide +kernel
theorem dX7_door_13 : decode cX7_door 13 = .ok (.iload_n 2, 1) := by decide +kernel
theorem dX7_door_14 : decode cX7_door 14 = .ok (.lookupswitch 46 #[(0, 26), (1, 36)], 26) := by decide +kernel
theorem dX7_door_40 : decode cX7_door 40 = .ok (.aload_n 0, 1) := by decide +kernel
theorem dX7_door_41 : decode cX7_door 41 = .ok (.getfield 27, 3) := by decide +kernel
theorem dX7_door_44 : decode cX7_door 44 = .ok (.getfield 158, 3) := by decide +kernel
theorem dX7_door_47 : decode cX7_door 47 = .ok (.iload_n 1, 1) := by decide +kernel
theorem dX7_door_48 : decode cX7_door 48 = .ok (.iaload, 1) := by decide +kernel
theorem dX7_door_49 : decode cX7_door 49 = .ok (.ireturn, 1) := by decide +kernel
theorem dX7_door_50 : decode cX7_door 50 = .ok (.aload_n 0, 1) := by decide +kernel
theorem dX7_door_51 : decode cX7_door 51 = .ok (.getfield 27, 3) := by decide +kernel
theorem dX7_door_54 : decode cX7_door 54 = .ok (.getfield 161, 3) := by decide +kernel
theorem dX7_door_57 : decode cX7_door 57 = .ok (.iload_n 1, 1) := by decide +kernel
theorem dX7_door_58 : decode cX7_door 58 = .ok (.iaload, 1) := by decide +kernel
theorem dX7_door_59 : decode cX7_door 59 = .ok (.ireturn, 1) := by decide +kernel
theorem dX7_door_60 : decode cX7_door 60 = .ok (.iconst (-1), 1) := by decide +kernel
theorem dX7_door_61 : decode cX7_door 61 = .ok (.ireturn, 1) := by decide +kernel
theorem dX7_moment_0 : decode cX7_moment 0 = .ok (.iload_n 1, 1) := by decide +kernel
theorem dX7_moment_1 : decode cX7_moment 1 = .ok (.lookupswitch 46 #[(0, 27), (1, 35)], 27) := by decide +kernel
theorem dX7_moment_28 : decode cX7_moment 28 = .ok (.aload_n 0, 1) := by decide +kernel
theorem dX7_moment_29 : decode cX7_moment 29 = .ok (.getfield 27, 3) := by decide +kernel
theorem dX7_moment_32 : decode cX7_moment 32 = .ok (.invokevirtual 164, 3) := by decide +kernel
theorem dX7_moment_35 : decode cX7_moment 35 = .ok (.ireturn, 1) := by decide +kernel
theorem dX7_moment_36 : decode cX7_moment 36 = .ok (.aload_n 0, 1) := by decide +kernel
theorem dX7_moment_37 : decode cX7_moment 37 = .ok (.getfield 27, 3) := by decide +kernel
theorem dX7_moment_40 : decode cX7_moment 40 = .ok (.invokevirtual 164, 3) := by decide +kernel
theorem dX7_moment_43 : decode cX7_moment 43 = .ok (.invokestatic 168, 3) := by decide +kernel
theorem dX7_moment_46 : decode cX7_moment 46 = .ok (.ireturn, 1) := by decide +kernel
theorem dX7_moment_47 : decode cX7_moment 47 = .ok (.ldc 133, 2) := by decide +kernel
theorem dX7_moment_49 : decode cX7_moment 49 = .ok (.ireturn, 1) := by decide +kernel
theorem dX7_best_0 : decode cX7_best 0 = .ok (.iload_n 1, 1) := by decide +kernel
theorem dX7_best_1 : decode cX7_best 1 = .ok (.ifCond .ge 5, 3) := by decide +kernel
theorem dX7_best_4 : decode cX7_best 4 = .ok (.iconst (-1), 1) := by decide +kernel
theorem dX7_best_5 : decode cX7_best 5 = .ok (.ireturn, 1) := by decide +kernel
theorem dX7_best_6 : decode cX7_best 6 = .ok (.aload_n 0, 1) := by decide +kernel
theorem dX7_best_7 : decode cX7_best 7 = .ok (.getfield 48, 3) := by decide +kernel
theorem dX7_best_10 : decode cX7_best 10 = .ok (.ifCond .ne 19, 3) := by decide +kernel
theorem dX7_best_13 : decode cX7_best 13 = .ok (.aload_n 0, 1) := by decide +kernel
theorem dX7_best_14 : decode cX7_best 14 = .ok (.getfield 44, 3) := by decide +kernel
theorem dX7_best_17 : decode cX7_best 17 = .ok (.aload_n 0, 1) := by decide +kernel
theorem dX7_best_18 : decode cX7_best 18 = .ok (.getfield 27, 3) := by decide +kernel
theorem dX7_best_21 : decode cX7_best 21 = .ok (.invokevirtual 173, 3) := by decide +kernel
theorem dX7_best_24 : decode cX7_best 24 = .ok (.aload_n 0, 1) := by decide +kernel
theorem dX7_best_25 : decode cX7_best 25 = .ok (.iconst 1, 1) := by decide +kernel
theorem dX7_best_26 : decode cX7_best 26 = .ok (.putfield 48, 3) := by decide +kernel
theorem dX7_best_29 : decode cX7_best 29 = .ok (.aload_n 0, 1) := by decide +kernel
theorem dX7_best_30 : decode cX7_best 30 = .ok (.getfield 44, 3) := by decide +kernel
theorem dX7_best_33 : decode cX7_best 33 = .ok (.iload_n 1, 1) := by decide +kernel
theorem dX7_best_34 : decode cX7_best 34 = .ok (.invokevirtual 176, 3) := by decide +kernel
theorem dX7_best_37 : decode cX7_best 37 = .ok (.ireturn, 1) := by decide +kernel
theorem dX7_places_0 : decode cX7_places 0 = .ok (.aload_n 0, 1) := by decide +kernel
theorem dX7_places_1 : decode cX7_places 1 = .ok (.getfield 27, 3) := by decide +kernel
theorem dX7_places_4 : decode cX7_places 4 = .ok (.iload_n 1, 1) := by decide +kernel
theorem dX7_places_5 : decode cX7_places 5 = .ok (.invokevirtual 85, 3) := by decide +kernel
theorem dX7_places_8 : decode cX7_places 8 = .ok (.ifCond .eq 12, 3) := by decide +kernel
theorem dX7_places_11 : decode cX7_places 11 = .ok (.iload_n 2, 1) := by decide +kernel
theorem dX7_places_12 : decode cX7_places 12 = .ok (.ifCond .lt 8, 3) := by decide +kernel
theorem dX7_places_15 : decode cX7_places 15 = .ok (.iload_n 2, 1) := by decide +kernel
theorem dX7_places_16 : decode cX7_places 16 = .ok (.iconst 3, 1) := by decide +kernel
theorem dX7_places_17 : decode cX7_places 17 = .ok (.if_icmp .le 5, 3) := by decide +kernel
theorem dX7_places_20 : decode cX7_places 20 = .ok (.iconst (-1), 1) := by decide +kernel
theorem dX7_places_21 : decode cX7_places 21 = .ok (.ireturn, 1) := by decide +kernel
theorem dX7_places_22 : decode cX7_places 22 = .ok (.aload_n 0, 1) := by decide +kernel
theorem dX7_places_23 : decode cX7_places 23 = .ok (.getfield 27, 3) := by decide +kernel
theorem dX7_places_26 : decode cX7_places 26 = .ok (.iload_n 1, 1) := by decide +kernel
theorem dX7_places_27 : decode cX7_places 27 = .ok (.invokevirtual 89, 3) := by decide +kernel
theorem dX7_places_30 : decode cX7_places 30 = .ok (.ifCond .eq 6, 3) := by decide +kernel
theorem dX7_places_33 : decode cX7_places 33 = .ok (.bipush (-2), 2) := by decide +kernel
theorem dX7_places_35 : decode cX7_places 35 = .ok (.ireturn, 1) := by decide +kernel
theorem dX7_places_36 : decode cX7_places 36 = .ok (.iload_n 2, 1) := by decide +kernel
theorem dX7_places_37 : decode cX7_places 37 = .ok (.tableswitch 47 0 2 #[27, 33, 40], 27) := by decide +kernel
theorem dX7_places_64 : decode cX7_places 64 = .ok (.aload_n 0, 1) := by decide +kernel
theorem dX7_places_65 : decode cX7_places 65 = .ok (.iload_n 1, 1) := by decide +kernel
theorem dX7_places_66 : decode cX7_places 66 = .ok (.invokevirtual 179, 3) := by decide +kernel
theorem dX7_places_69 : decode cX7_places 69 = .ok (.ireturn, 1) := by decide +kernel
theorem dX7_places_70 : decode cX7_places 70 = .ok (.aload_n 0, 1) := by decide +kernel
theorem dX7_places_71 : decode cX7_places 71 = .ok (.iload_n 1, 1) := by decide +kernel
theorem dX7_places_72 : decode cX7_places 72 = .ok (.iconst 0, 1) := by decide +kernel
theorem dX7_places_73 : decode cX7_places 73 = .ok (.invokevirtual 182, 3) := by decide +kernel
theorem dX7_places_76 : decode cX7_places 76 = .ok (.ireturn, 1) := by decide +kernel
theorem dX7_places_77 : decode cX7_places 77 = .ok (.aload_n 0, 1) := by decide +kernel
theorem dX7_places_78 : decode cX7_places 78 = .ok (.iload_n 1, 1) := by decide +kernel
theorem dX7_places_79 : decode cX7_places 79 = .ok (.iconst 1, 1) := by decide +kernel
theorem dX7_places_80 : decode cX7_places 80 = .ok (.invokevirtual 182, 3) := by decide +kernel
theorem dX7_places_83 : decode cX7_places 83 = .ok (.ireturn, 1) := by decide +kernel
theorem dX7_places_84 : decode cX7_places 84 = .ok (.aload_n 0, 1) := by decide +kernel
theorem dX7_places_85 : decode cX7_places 85 = .ok (.iload_n 1, 1) := by decide +kernel
theorem dX7_places_86 : decode cX7_places 86 = .ok (.invokevirtual 186, 3) := by decide +kernel
theorem dX7_places_89 : decode cX7_places 89 = .ok (.ireturn, 1) := by decide +kernel
theorem dX7_most_0 : decode cX7_most 0 = .ok (.aload_n 0, 1) := by decide +kernel
theorem dX7_most_1 : decode cX7_most 1 = .ok (.getfield 55, 3) := by decide +kernel
theorem dX7_most_4 : decode cX7_most 4 = .ok (.aload_n 0, 1) := by decide +kernel
theorem dX7_most_5 : decode cX7_most 5 = .ok (.getfield 27, 3) := by decide +kernel
theorem dX7_most_8 : decode cX7_most 8 = .ok (.invokevirtual 189, 3) := by decide +kernel
theorem dX7_most_11 : decode cX7_most 11 = .ok (.ireturn, 1) := by decide +kernel
theorem dX7_sees_0 : decode cX7_sees 0 = .ok (.iload_n 1, 1) := by decide +kernel
theorem dX7_sees_1 : decode cX7_sees 1 = .ok (.ifCond .lt 20, 3) := by decide +kernel
theorem dX7_sees_4 : decode cX7_sees 4 = .ok (.iload_n 1, 1) := by decide +kernel
theorem dX7_sees_5 : decode cX7_sees 5 = .ok (.iconst 3, 1) := by decide +kernel
theorem dX7_sees_6 : decode cX7_sees 6 = .ok (.if_icmp .gt 15, 3) := by decide +kernel
theorem dX7_sees_9 : decode cX7_sees 9 = .ok (.iload_n 2, 1) := by decide +kernel
theorem dX7_sees_10 : decode cX7_sees 10 = .ok (.bipush (-99), 2) := by decide +kernel
theorem dX7_sees_12 : decode cX7_sees 12 = .ok (.if_icmp .lt 9, 3) := by decide +kernel
theorem dX7_sees_15 : decode cX7_sees 15 = .ok (.iload_n 2, 1) := by decide +kernel
theorem dX7_sees_16 : decode cX7_sees 16 = .ok (.bipush 99, 2) := by decide +kernel
theorem dX7_sees_18 : decode cX7_sees 18 = .ok (.if_icmp .le 5, 3) := by decide +kernel
theorem dX7_sees_21 : decode cX7_sees 21 = .ok (.iconst (-1), 1) := by decide +kernel
theorem dX7_sees_22 : decode cX7_sees 22 = .ok (.ireturn, 1) := by decide +kernel
theorem dX7_sees_23 : decode cX7_sees 23 = .ok (.aload_n 0, 1) := by decide +kernel
theorem dX7_sees_24 : decode cX7_sees 24 = .ok (.getfield 62, 3) := by decide +kernel
theorem dX7_sees_27 : decode cX7_sees 27 = .ok (.getfield 193, 3) := by decide +kernel
theorem dX7_sees_30 : decode cX7_sees 30 = .ok (.bipush 6, 2) := by decide +kernel
theorem dX7_sees_32 : decode cX7_sees 32 = .ok (.if_icmp .lt 6, 3) := by decide +kernel
theorem dX7_sees_35 : decode cX7_sees 35 = .ok (.bipush (-3), 2) := by decide +kernel
theorem dX7_sees_37 : decode cX7_sees 37 = .ok (.ireturn, 1) := by decide +kernel
theorem dX7_sees_38 : decode cX7_sees 38 = .ok (.aload_n 0, 1) := by decide +kernel
theorem dX7_sees_39 : decode cX7_sees 39 = .ok (.getfield 62, 3) := by decide +kernel
theorem dX7_sees_42 : decode cX7_sees 42 = .ok (.iload_n 1, 1) := by decide +kernel
theorem dX7_sees_43 : decode cX7_sees 43 = .ok (.iload_n 2, 1) := by decide +kernel
theorem dX7_sees_44 : decode cX7_sees 44 = .ok (.invokevirtual 196, 3) := by decide +kernel
theorem dX7_sees_47 : decode cX7_sees 47 = .ok (.aload_n 0, 1) := by decide +kernel
theorem dX7_sees_48 : decode cX7_sees 48 = .ok (.getfield 62, 3) := by decide +kernel
theorem dX7_sees_51 : decode cX7_sees 51 = .ok (.getfield 193, 3) := by decide +kernel
theorem dX7_sees_54 : decode cX7_sees 54 = .ok (.ireturn, 1) := by decide +kernel
theorem dX7_forget_0 : decode cX7_forget 0 = .ok (.aload_n 0, 1) := by decide +kernel
theorem dX7_forget_1 : decode cX7_forget 1 = .ok (.getfield 62, 3) := by decide +kernel
theorem dX7_forget_4 : decode cX7_forget 4 = .ok (.getfield 193, 3) := by decide +kernel
theorem dX7_forget_7 : decode cX7_forget 7 = .ok (.istore_n 1, 1) := by decide +kernel
theorem dX7_forget_8 : decode cX7_forget 8 = .ok (.aload_n 0, 1) := by decide +kernel
theorem dX7_forget_9 : decode cX7_forget 9 = .ok (.getfield 62, 3) := by decide +kernel
theorem dX7_forget_12 : decode cX7_forget 12 = .ok (.iconst 0, 1) := by decide +kernel
theorem dX7_forget_13 : decode cX7_forget 13 = .ok (.putfield 193, 3) := by decide +kernel
theorem dX7_forget_16 : decode cX7_forget 16 = .ok (.iload_n 1, 1) := by decide +kernel
theorem dX7_forget_17 : decode cX7_forget 17 = .ok (.ireturn, 1) := by decide +kernel
theorem dX7_which_0 : decode cX7_which 0 = .ok (.iload_n 1, 1) := by decide +kernel
theorem dX7_which_1 : decode cX7_which 1 = .ok (.lookupswitch 51 #[(0, 27), (1, 39)], 27) := by decide +kernel
theorem dX7_which_28 : decode cX7_which 28 = .ok (.aload_n 0, 1) := by decide +kernel
theorem dX7_which_29 : decode cX7_which 29 = .ok (.getfield 62, 3) := by decide +kernel
theorem dX7_which_32 : decode cX7_which 32 = .ok (.aload_n 0, 1) := by decide +kernel
theorem dX7_which_33 : decode cX7_which 33 = .ok (.getfield 27, 3) := by decide +kernel
theorem dX7_which_36 : decode cX7_which 36 = .ok (.invokevirtual 199, 3) := by decide +kernel
theorem dX7_which_39 : decode cX7_which 39 = .ok (.ireturn, 1) := by decide +kernel
theorem dX7_which_40 : decode cX7_which 40 = .ok (.aload_n 0, 1) := by decide +kernel
theorem dX7_which_41 : decode cX7_which 41 = .ok (.getfield 62, 3) := by decide +kernel
theorem dX7_which_44 : decode cX7_which 44 = .ok (.aload_n 0, 1) := by decide +kernel
theorem dX7_which_45 : decode cX7_which 45 = .ok (.getfield 27, 3) := by decide +kernel
theorem dX7_which_48 : decode cX7_which 48 = .ok (.invokevirtual 202, 3) := by decide +kernel
theorem dX7_which_51 : decode cX7_which 51 = .ok (.ireturn, 1) := by decide +kernel
theorem dX7_which_52 : decode cX7_which 52 = .ok (.iconst (-1), 1) := by decide +kernel
theorem dX7_which_53 : decode cX7_which 53 = .ok (.ireturn, 1) := by decide +kernel
theorem dX7_keep_0 : decode cX7_keep 0 = .ok (.iload_n 1, 1) := by decide +kernel
theorem dX7_keep_1 : decode cX7_keep 1 = .ok (.ifCond .lt 8, 3) := by decide +kernel
theorem dX7_keep_4 : decode cX7_keep 4 = .ok (.iload_n 1, 1) := by decide +kernel
theorem dX7_keep_5 : decode cX7_keep 5 = .ok (.iconst 2, 1) := by decide +kernel
theorem dX7_keep_6 : decode cX7_keep 6 = .ok (.if_icmp .lt 5, 3) := by decide +kernel
theorem dX7_keep_9 : decode cX7_keep 9 = .ok (.iconst (-1), 1) := by decide +kernel
theorem dX7_keep_10 : decode cX7_keep 10 = .ok (.ireturn, 1) := by decide +kernel
theorem dX7_keep_11 : decode cX7_keep 11 = .ok (.aload_n 0, 1) := by decide +kernel
theorem dX7_keep_12 : decode cX7_keep 12 = .ok (.getfield 66, 3) := by decide +kernel
theorem dX7_keep_15 : decode cX7_keep 15 = .ok (.iload_n 1, 1) := by decide +kernel
theorem dX7_keep_16 : decode cX7_keep 16 = .ok (.aaload, 1) := by decide +kernel
theorem dX7_keep_17 : decode cX7_keep 17 = .ok (.aload_n 0, 1) := by decide +kernel
theorem dX7_keep_18 : decode cX7_keep 18 = .ok (.getfield 27, 3) := by decide +kernel
theorem dX7_keep_21 : decode cX7_keep 21 = .ok (.invokevirtual 81, 3) := by decide +kernel
theorem dX7_keep_24 : decode cX7_keep 24 = .ok (.aload_n 0, 1) := by decide +kernel
theorem dX7_keep_25 : decode cX7_keep 25 = .ok (.getfield 70, 3) := by decide +kernel
theorem dX7_keep_28 : decode cX7_keep 28 = .ok (.iload_n 1, 1) := by decide +kernel
theorem dX7_keep_29 : decode cX7_keep 29 = .ok (.iconst 1, 1) := by decide +kernel
theorem dX7_keep_30 : decode cX7_keep 30 = .ok (.bastore, 1) := by decide +kernel
theorem dX7_keep_31 : decode cX7_keep 31 = .ok (.aload_n 0, 1) := by decide +kernel
theorem dX7_keep_32 : decode cX7_keep 32 = .ok (.getfield 27, 3) := by decide +kernel
theorem dX7_keep_35 : decode cX7_keep 35 = .ok (.invokevirtual 205, 3) := by decide +kernel
theorem dX7_keep_38 : decode cX7_keep 38 = .ok (.ireturn, 1) := by decide +kernel
theorem dX7_back_0 : decode cX7_back 0 = .ok (.iload_n 1, 1) := by decide +kernel
theorem dX7_back_1 : decode cX7_back 1 = .ok (.ifCond .lt 8, 3) := by decide +kernel
theorem dX7_back_4 : decode cX7_back 4 = .ok (.iload_n 1, 1) := by decide +kernel
theorem dX7_back_5 : decode cX7_back 5 = .ok (.iconst 2, 1) := by decide +kernel
theorem dX7_back_6 : decode cX7_back 6 = .ok (.if_icmp .lt 5, 3) := by decide +kernel
theorem dX7_back_9 : decode cX7_back 9 = .ok (.iconst (-1), 1) := by decide +kernel
theorem dX7_back_10 : decode cX7_back 10 = .ok (.ireturn, 1) := by decide +kernel
theorem dX7_back_11 : decode cX7_back 11 = .ok (.aload_n 0, 1) := by decide +kernel
theorem dX7_back_12 : decode cX7_back 12 = .ok (.getfield 70, 3) := by decide +kernel
theorem dX7_back_15 : decode cX7_back 15 = .ok (.iload_n 1, 1) := by decide +kernel
theorem dX7_back_16 : decode cX7_back 16 = .ok (.baload, 1) := by decide +kernel
theorem dX7_back_17 : decode cX7_back 17 = .ok (.ifCond .ne 6, 3) := by decide +kernel
theorem dX7_back_20 : decode cX7_back 20 = .ok (.bipush (-2), 2) := by decide +kernel
theorem dX7_back_22 : decode cX7_back 22 = .ok (.ireturn, 1) := by decide +kernel
theorem dX7_back_23 : decode cX7_back 23 = .ok (.aload_n 0, 1) := by decide +kernel
theorem dX7_back_24 : decode cX7_back 24 = .ok (.getfield 27, 3) := by decide +kernel
theorem dX7_back_27 : decode cX7_back 27 = .ok (.aload_n 0, 1) := by decide +kernel
theorem dX7_back_28 : decode cX7_back 28 = .ok (.getfield 66, 3) := by decide +kernel
theorem dX7_back_31 : decode cX7_back 31 = .ok (.iload_n 1, 1) := by decide +kernel
theorem dX7_back_32 : decode cX7_back 32 = .ok (.aaload, 1) := by decide +kernel
theorem dX7_back_33 : decode cX7_back 33 = .ok (.invokevirtual 81, 3) := by decide +kernel
theorem dX7_back_36 : decode cX7_back 36 = .ok (.aload_n 0, 1) := by decide +kernel
theorem dX7_back_37 : decode cX7_back 37 = .ok (.getfield 37, 3) := by decide +kernel
theorem dX7_back_40 : decode cX7_back 40 = .ok (.iconst 0, 1) := by decide +kernel
theorem dX7_back_41 : decode cX7_back 41 = .ok (.putfield 130, 3) := by decide +kernel
theorem dX7_back_44 : decode cX7_back 44 = .ok (.aload_n 0, 1) := by decide +kernel
theorem dX7_back_45 : decode cX7_back 45 = .ok (.iconst 0, 1) := by decide +kernel
theorem dX7_back_46 : decode cX7_back 46 = .ok (.putfield 48, 3) := by decide +kernel
theorem dX7_back_49 : decode cX7_back 49 = .ok (.aload_n 0, 1) := by decide +kernel
theorem dX7_back_50 : decode cX7_back 50 = .ok (.getfield 27, 3) := by decide +kernel
theorem dX7_back_53 : decode cX7_back 53 = .ok (.invokevirtual 205, 3) := by decide +kernel
theorem dX7_back_56 : decode cX7_back 56 = .ok (.ireturn, 1) := by decide +kernel
theorem dX7_count_0 : decode cX7_count 0 = .ok (.iload_n 1, 1) := by decide +kernel
theorem dX7_count_1 : decode cX7_count 1 = .ok (.tableswitch 132 0 9 #[55, 63, 71, 79, 87, 95, 103, 111, 119, 124], 55) := by decide +kernel
theorem dX7_count_56 : decode cX7_count 56 = .ok (.aload_n 0, 1) := by decide +kernel
theorem dX7_count_57 : decode cX7_count 57 = .ok (.getfield 27, 3) := by decide +kernel
theorem dX7_count_60 : decode cX7_count 60 = .ok (.getfield 208, 3) := by decide +kernel
theorem dX7_count_63 : decode cX7_count 63 = .ok (.ireturn, 1) := by decide +kernel
theorem dX7_count_64 : decode cX7_count 64 = .ok (.aload_n 0, 1) := by decide +kernel
theorem dX7_count_65 : decode cX7_count 65 = .ok (.getfield 27, 3) := by decide +kernel
theorem dX7_count_68 : decode cX7_count 68 = .ok (.getfield 120, 3) := by decide +kernel
theorem dX7_count_71 : decode cX7_count 71 = .ok (.ireturn, 1) := by decide +kernel
theorem dX7_count_72 : decode cX7_count 72 = .ok (.aload_n 0, 1) := by decide +kernel
theorem dX7_count_73 : decode cX7_count 73 = .ok (.getfield 27, 3) := by decide +kernel
theorem dX7_count_76 : decode cX7_count 76 = .ok (.getfield 211, 3) := by decide +kernel
theorem dX7_count_79 : decode cX7_count 79 = .ok (.ireturn, 1) := by decide +kernel
theorem dX7_count_80 : decode cX7_count 80 = .ok (.aload_n 0, 1) := by decide +kernel
theorem dX7_count_81 : decode cX7_count 81 = .ok (.getfield 27, 3) := by decide +kernel
theorem dX7_count_84 : decode cX7_count 84 = .ok (.getfield 214, 3) := by decide +kernel
theorem dX7_count_87 : decode cX7_count 87 = .ok (.ireturn, 1) := by decide +kernel
theorem dX7_count_88 : decode cX7_count 88 = .ok (.aload_n 0, 1) := by decide +kernel
theorem dX7_count_89 : decode cX7_count 89 = .ok (.getfield 27, 3) := by decide +kernel
theorem dX7_count_92 : decode cX7_count 92 = .ok (.getfield 217, 3) := by decide +kernel
theorem dX7_count_95 : decode cX7_count 95 = .ok (.ireturn, 1) := by decide +kernel
theorem dX7_count_96 : decode cX7_count 96 = .ok (.aload_n 0, 1) := by decide +kernel
theorem dX7_count_97 : decode cX7_count 97 = .ok (.getfield 27, 3) := by decide +kernel
theorem dX7_count_100 : decode cX7_count 100 = .ok (.getfield 99, 3) := by decide +kernel
theorem dX7_count_103 : decode cX7_count 103 = .ok (.ireturn, 1) := by decide +kernel
theorem dX7_count_104 : decode cX7_count 104 = .ok (.aload_n 0, 1) := by decide +kernel
theorem dX7_count_105 : decode cX7_count 105 = .ok (.getfield 27, 3) := by decide +kernel
theorem dX7_count_108 : decode cX7_count 108 = .ok (.invokevirtual 205, 3) := by decide +kernel
theorem dX7_count_111 : decode cX7_count 111 = .ok (.ireturn, 1) := by decide +kernel
theorem dX7_count_112 : decode cX7_count 112 = .ok (.aload_n 0, 1) := by decide +kernel
theorem dX7_count_113 : decode cX7_count 113 = .ok (.getfield 62, 3) := by decide +kernel
theorem dX7_count_116 : decode cX7_count 116 = .ok (.getfield 193, 3) := by decide +kernel
theorem dX7_count_119 : decode cX7_count 119 = .ok (.ireturn, 1) := by decide +kernel
theorem dX7_count_120 : decode cX7_count 120 = .ok (.aload_n 0, 1) := by decide +kernel
theorem dX7_count_121 : decode cX7_count 121 = .ok (.getfield 13, 3) := by decide +kernel
theorem dX7_count_124 : decode cX7_count 124 = .ok (.ireturn, 1) := by decide +kernel
theorem dX7_count_125 : decode cX7_count 125 = .ok (.aload_n 0, 1) := by decide +kernel
theorem dX7_count_126 : decode cX7_count 126 = .ok (.getfield 37, 3) := by decide +kernel
theorem dX7_count_129 : decode cX7_count 129 = .ok (.getfield 130, 3) := by decide +kernel
theorem dX7_count_132 : decode cX7_count 132 = .ok (.ireturn, 1) := by decide +kernel
theorem dX7_count_133 : decode cX7_count 133 = .ok (.iconst (-1), 1) := by decide +kernel
theorem dX7_count_134 : decode cX7_count 134 = .ok (.ireturn, 1) := by decide +kernel
theorem dX7_remember_0 : decode cX7_remember 0 = .ok (.aload_n 0, 1) := by decide +kernel
theorem dX7_remember_1 : decode cX7_remember 1 = .ok (.getfield 37, 3) := by decide +kernel
theorem dX7_remember_4 : decode cX7_remember 4 = .ok (.aload_n 0, 1) := by decide +kernel
theorem dX7_remember_5 : decode cX7_remember 5 = .ok (.getfield 27, 3) := by decide +kernel
theorem dX7_remember_8 : decode cX7_remember 8 = .ok (.invokevirtual 220, 3) := by decide +kernel
theorem dX7_remember_11 : decode cX7_remember 11 = .ok (.aload_n 0, 1) := by decide +kernel
theorem dX7_remember_12 : decode cX7_remember 12 = .ok (.iconst 0, 1) := by decide +kernel
theorem dX7_remember_13 : decode cX7_remember 13 = .ok (.putfield 48, 3) := by decide +kernel
theorem dX7_remember_16 : decode cX7_remember 16 = .ok (.return_, 1) := by decide +kernel
theorem dX7_countPlaces_0 : decode cX7_countPlaces 0 = .ok (.iconst 0, 1) := by decide +kernel
theorem dX7_countPlaces_1 : decode cX7_countPlaces 1 = .ok (.istore_n 2, 1) := by decide +kernel
theorem dX7_countPlaces_2 : decode cX7_countPlaces 2 = .ok (.iconst 0, 1) := by decide +kernel
theorem dX7_countPlaces_3 : decode cX7_countPlaces 3 = .ok (.istore_n 3, 1) := by decide +kernel
theorem dX7_countPlaces_4 : decode cX7_countPlaces 4 = .ok (.iload_n 3, 1) := by decide +kernel
theorem dX7_countPlaces_5 : decode cX7_countPlaces 5 = .ok (.aload_n 0, 1) := by decide +kernel
theorem dX7_countPlaces_6 : decode cX7_countPlaces 6 = .ok (.getfield 27, 3) := by decide +kernel
theorem dX7_countPlaces_9 : decode cX7_countPlaces 9 = .ok (.getfield 208, 3) := by decide +kernel
theorem dX7_countPlaces_12 : decode cX7_countPlaces 12 = .ok (.if_icmp .ge 24, 3) := by decide +kernel
theorem dX7_countPlaces_15 : decode cX7_countPlaces 15 = .ok (.aload_n 0, 1) := by decide +kernel
theorem dX7_countPlaces_16 : decode cX7_countPlaces 16 = .ok (.getfield 27, 3) := by decide +kernel
theorem dX7_countPlaces_19 : decode cX7_countPlaces 19 = .ok (.iload_n 1, 1) := by decide +kernel
theorem dX7_countPlaces_20 : decode cX7_countPlaces 20 = .ok (.iload_n 3, 1) := by decide +kernel
theorem dX7_countPlaces_21 : decode cX7_countPlaces 21 = .ok (.invokevirtual 92, 3) := by decide +kernel
theorem dX7_countPlaces_24 : decode cX7_countPlaces 24 = .ok (.ifCond .eq 6, 3) := by decide +kernel
theorem dX7_countPlaces_27 : decode cX7_countPlaces 27 = .ok (.iinc 2 1, 3) := by decide +kernel
theorem dX7_countPlaces_30 : decode cX7_countPlaces 30 = .ok (.iinc 3 1, 3) := by decide +kernel
theorem dX7_countPlaces_33 : decode cX7_countPlaces 33 = .ok (.goto (-29), 3) := by decide +kernel
theorem dX7_countPlaces_36 : decode cX7_countPlaces 36 = .ok (.iload_n 2, 1) := by decide +kernel
theorem dX7_countPlaces_37 : decode cX7_countPlaces 37 = .ok (.ireturn, 1) := by decide +kernel
theorem dX7_leastPlace_0 : decode cX7_leastPlace 0 = .ok (.iconst 0, 1) := by decide +kernel
theorem dX7_leastPlace_1 : decode cX7_leastPlace 1 = .ok (.istore_n 3, 1) := by decide +kernel
theorem dX7_leastPlace_2 : decode cX7_leastPlace 2 = .ok (.iload_n 3, 1) := by decide +kernel
theorem dX7_leastPlace_3 : decode cX7_leastPlace 3 = .ok (.aload_n 0, 1) := by decide +kernel
theorem dX7_leastPlace_4 : decode cX7_leastPlace 4 = .ok (.getfield 27, 3) := by decide +kernel
theorem dX7_leastPlace_7 : decode cX7_leastPlace 7 = .ok (.getfield 208, 3) := by decide +kernel
theorem dX7_leastPlace_10 : decode cX7_leastPlace 10 = .ok (.if_icmp .ge 39, 3) := by decide +kernel
theorem dX7_leastPlace_13 : decode cX7_leastPlace 13 = .ok (.aload_n 0, 1) := by decide +kernel
theorem dX7_leastPlace_14 : decode cX7_leastPlace 14 = .ok (.getfield 27, 3) := by decide +kernel
theorem dX7_leastPlace_17 : decode cX7_leastPlace 17 = .ok (.iload_n 1, 1) := by decide +kernel
theorem dX7_leastPlace_18 : decode cX7_leastPlace 18 = .ok (.iload_n 3, 1) := by decide +kernel
theorem dX7_leastPlace_19 : decode cX7_leastPlace 19 = .ok (.invokevirtual 92, 3) := by decide +kernel
theorem dX7_leastPlace_22 : decode cX7_leastPlace 22 = .ok (.ifCond .eq 21, 3) := by decide +kernel
theorem dX7_leastPlace_25 : decode cX7_leastPlace 25 = .ok (.iload_n 2, 1) := by decide +kernel
theorem dX7_leastPlace_26 : decode cX7_leastPlace 26 = .ok (.ifCond .eq 15, 3) := by decide +kernel
theorem dX7_leastPlace_29 : decode cX7_leastPlace 29 = .ok (.aload_n 0, 1) := by decide +kernel
theorem dX7_leastPlace_30 : decode cX7_leastPlace 30 = .ok (.getfield 27, 3) := by decide +kernel
theorem dX7_leastPlace_33 : decode cX7_leastPlace 33 = .ok (.iload_n 1, 1) := by decide +kernel
theorem dX7_leastPlace_34 : decode cX7_leastPlace 34 = .ok (.iload_n 3, 1) := by decide +kernel
theorem dX7_leastPlace_35 : decode cX7_leastPlace 35 = .ok (.invokevirtual 96, 3) := by decide +kernel
theorem dX7_leastPlace_38 : decode cX7_leastPlace 38 = .ok (.ifCond .eq 5, 3) := by decide +kernel
theorem dX7_leastPlace_41 : decode cX7_leastPlace 41 = .ok (.iload_n 3, 1) := by decide +kernel
theorem dX7_leastPlace_42 : decode cX7_leastPlace 42 = .ok (.ireturn, 1) := by decide +kernel
theorem dX7_leastPlace_43 : decode cX7_leastPlace 43 = .ok (.iinc 3 1, 3) := by decide +kernel
theorem dX7_leastPlace_46 : decode cX7_leastPlace 46 = .ok (.goto (-44), 3) := by decide +kernel
theorem dX7_leastPlace_49 : decode cX7_leastPlace 49 = .ok (.bipush (-9), 2) := by decide +kernel
theorem dX7_leastPlace_51 : decode cX7_leastPlace 51 = .ok (.ireturn, 1) := by decide +kernel
theorem dX7_calmestPlace_0 : decode cX7_calmestPlace 0 = .ok (.aload_n 0, 1) := by decide +kernel
theorem dX7_calmestPlace_1 : decode cX7_calmestPlace 1 = .ok (.getfield 27, 3) := by decide +kernel
theorem dX7_calmestPlace_4 : decode cX7_calmestPlace 4 = .ok (.invokevirtual 164, 3) := by decide +kernel
theorem dX7_calmestPlace_7 : decode cX7_calmestPlace 7 = .ok (.istore_n 2, 1) := by decide +kernel
theorem dX7_calmestPlace_8 : decode cX7_calmestPlace 8 = .ok (.bipush (-9), 2) := by decide +kernel
theorem dX7_calmestPlace_10 : decode cX7_calmestPlace 10 = .ok (.istore_n 3, 1) := by decide +kernel
theorem dX7_calmestPlace_11 : decode cX7_calmestPlace 11 = .ok (.iconst 0, 1) := by decide +kernel
theorem dX7_calmestPlace_12 : decode cX7_calmestPlace 12 = .ok (.istore 4, 2) := by decide +kernel
theorem dX7_calmestPlace_14 : decode cX7_calmestPlace 14 = .ok (.iconst 0, 1) := by decide +kernel
theorem dX7_calmestPlace_15 : decode cX7_calmestPlace 15 = .ok (.istore 5, 2) := by decide +kernel
theorem dX7_calmestPlace_17 : decode cX7_calmestPlace 17 = .ok (.iload 5, 2) := by decide +kernel
theorem dX7_calmestPlace_19 : decode cX7_calmestPlace 19 = .ok (.aload_n 0, 1) := by decide +kernel
theorem dX7_calmestPlace_20 : decode cX7_calmestPlace 20 = .ok (.getfield 27, 3) := by decide +kernel
theorem dX7_calmestPlace_23 : decode cX7_calmestPlace 23 = .ok (.getfield 208, 3) := by decide +kernel
theorem dX7_calmestPlace_26 : decode cX7_calmestPlace 26 = .ok (.if_icmp .ge 59, 3) := by decide +kernel
theorem dX7_calmestPlace_29 : decode cX7_calmestPlace 29 = .ok (.aload_n 0, 1) := by decide +kernel
theorem dX7_calmestPlace_30 : decode cX7_calmestPlace 30 = .ok (.getfield 27, 3) := by decide +kernel
theorem dX7_calmestPlace_33 : decode cX7_calmestPlace 33 = .ok (.iload_n 1, 1) := by decide +kernel
theorem dX7_calmestPlace_34 : decode cX7_calmestPlace 34 = .ok (.iload 5, 2) := by decide +kernel
theorem dX7_calmestPlace_36 : decode cX7_calmestPlace 36 = .ok (.invokevirtual 92, 3) := by decide +kernel
theorem dX7_calmestPlace_39 : decode cX7_calmestPlace 39 = .ok (.ifCond .eq 40, 3) := by decide +kernel
theorem dX7_calmestPlace_42 : decode cX7_calmestPlace 42 = .ok (.iload_n 2, 1) := by decide +kernel
theorem dX7_calmestPlace_43 : decode cX7_calmestPlace 43 = .ok (.aload_n 0, 1) := by decide +kernel
theorem dX7_calmestPlace_44 : decode cX7_calmestPlace 44 = .ok (.getfield 27, 3) := by decide +kernel
theorem dX7_calmestPlace_47 : decode cX7_calmestPlace 47 = .ok (.iload_n 1, 1) := by decide +kernel
theorem dX7_calmestPlace_48 : decode cX7_calmestPlace 48 = .ok (.iload 5, 2) := by decide +kernel
theorem dX7_calmestPlace_50 : decode cX7_calmestPlace 50 = .ok (.invokevirtual 222, 3) := by decide +kernel
theorem dX7_calmestPlace_53 : decode cX7_calmestPlace 53 = .ok (.iadd, 1) := by decide +kernel
theorem dX7_calmestPlace_54 : decode cX7_calmestPlace 54 = .ok (.invokestatic 168, 3) := by decide +kernel
theorem dX7_calmestPlace_57 : decode cX7_calmestPlace 57 = .ok (.istore 6, 2) := by decide +kernel
theorem dX7_calmestPlace_59 : decode cX7_calmestPlace 59 = .ok (.iload_n 3, 1) := by decide +kernel
theorem dX7_calmestPlace_60 : decode cX7_calmestPlace 60 = .ok (.bipush (-9), 2) := by decide +kernel
theorem dX7_calmestPlace_62 : decode cX7_calmestPlace 62 = .ok (.if_icmp .eq 10, 3) := by decide +kernel
theorem dX7_calmestPlace_65 : decode cX7_calmestPlace 65 = .ok (.iload 6, 2) := by decide +kernel
theorem dX7_calmestPlace_67 : decode cX7_calmestPlace 67 = .ok (.iload 4, 2) := by decide +kernel
theorem dX7_calmestPlace_69 : decode cX7_calmestPlace 69 = .ok (.if_icmp .ge 10, 3) := by decide +kernel
theorem dX7_calmestPlace_72 : decode cX7_calmestPlace 72 = .ok (.iload 5, 2) := by decide +kernel
theorem dX7_calmestPlace_74 : decode cX7_calmestPlace 74 = .ok (.istore_n 3, 1) := by decide +kernel
theorem dX7_calmestPlace_75 : decode cX7_calmestPlace 75 = .ok (.iload 6, 2) := by decide +kernel
theorem dX7_calmestPlace_77 : decode cX7_calmestPlace 77 = .ok (.istore 4, 2) := by decide +kernel
theorem dX7_calmestPlace_79 : decode cX7_calmestPlace 79 = .ok (.iinc 5 1, 3) := by decide +kernel
theorem dX7_calmestPlace_82 : decode cX7_calmestPlace 82 = .ok (.goto (-65), 3) := by decide +kernel
theorem dX7_calmestPlace_85 : decode cX7_calmestPlace 85 = .ok (.iload_n 3, 1) := by decide +kernel
theorem dX7_calmestPlace_86 : decode cX7_calmestPlace 86 = .ok (.ireturn, 1) := by decide +kernel
theorem dX8_init_0 : decode cX8_init 0 = .ok (.aload_n 0, 1) := by decide +kernel
theorem dX8_init_1 : decode cX8_init 1 = .ok (.invokespecial 1, 3) := by decide +kernel
theorem dX8_init_4 : decode cX8_init 4 = .ok (.aload_n 0, 1) := by decide +kernel
theorem dX8_init_5 : decode cX8_init 5 = .ok (.bipush 69, 2) := by decide +kernel
theorem dX8_init_7 : decode cX8_init 7 = .ok (.newarray .int, 2) := by decide +kernel
theorem dX8_init_9 : decode cX8_init 9 = .ok (.putfield 7, 3) := by decide +kernel
theorem dX8_init_12 : decode cX8_init 12 = .ok (.aload_n 0, 1) := by decide +kernel
theorem dX8_init_13 : decode cX8_init 13 = .ok (.bipush 69, 2) := by decide +kernel
theorem dX8_init_15 : decode cX8_init 15 = .ok (.newarray .int, 2) := by decide +kernel
theorem dX8_init_17 : decode cX8_init 17 = .ok (.putfield 13, 3) := by decide +kernel
theorem dX8_init_20 : decode cX8_init 20 = .ok (.aload_n 0, 1) := by decide +kernel
theorem dX8_init_21 : decode cX8_init 21 = .ok (.sipush 414, 3) := by decide +kernel
theorem dX8_init_24 : decode cX8_init 24 = .ok (.newarray .int, 2) := by decide +kernel
theorem dX8_init_26 : decode cX8_init 26 = .ok (.putfield 16, 3) := by decide +kernel
theorem dX8_init_29 : decode cX8_init 29 = .ok (.aload_n 0, 1) := by decide +kernel
theorem dX8_init_30 : decode cX8_init 30 = .ok (.sipush 138, 3) := by decide +kernel
theorem dX8_init_33 : decode cX8_init 33 = .ok (.newarray .int, 2) := by decide +kernel
theorem dX8_init_35 : decode cX8_init 35 = .ok (.putfield 19, 3) := by decide +kernel
theorem dX8_init_38 : decode cX8_init 38 = .ok (.aload_n 0, 1) := by decide +kernel
theorem dX8_init_39 : decode cX8_init 39 = .ok (.iconst 2, 1) := by decide +kernel
theorem dX8_init_40 : decode cX8_init 40 = .ok (.newarray .boolean, 2) := by decide +kernel
theorem dX8_init_42 : decode cX8_init 42 = .ok (.putfield 22, 3) := by decide +kernel
theorem dX8_init_45 : decode cX8_init 45 = .ok (.aload_n 0, 1) := by decide +kernel
theorem dX8_init_46 : decode cX8_init 46 = .ok (.bipush 6, 2) := by decide +kernel
theorem dX8_init_48 : decode cX8_init 48 = .ok (.newarray .int, 2) := by decide +kernel
theorem dX8_init_50 : decode cX8_init 50 = .ok (.putfield 26, 3) := by decide +kernel
theorem dX8_init_53 : decode cX8_init 53 = .ok (.aload_n 0, 1) := by decide +kernel
theorem dX8_init_54 : decode cX8_init 54 = .ok (.bipush 6, 2) := by decide +kernel
theorem dX8_init_56 : decode cX8_init 56 = .ok (.newarray .int, 2) := by decide +kernel
theorem dX8_init_58 : decode cX8_init 58 = .ok (.putfield 29, 3) := by decide +kernel
theorem dX8_init_61 : decode cX8_init 61 = .ok (.aload_n 0, 1) := by decide +kernel
theorem dX8_init_62 : decode cX8_init 62 = .ok (.bipush 120, 2) := by decide +kernel
theorem dX8_init_64 : decode cX8_init 64 = .ok (.newarray .int, 2) := by decide +kernel
theorem dX8_init_66 : decode cX8_init 66 = .ok (.putfield 32, 3) := by decide +kernel
theorem dX8_init_69 : decode cX8_init 69 = .ok (.aload_n 0, 1) := by decide +kernel
theorem dX8_init_70 : decode cX8_init 70 = .ok (.iconst 5, 1) := by decide +kernel
theorem dX8_init_71 : decode cX8_init 71 = .ok (.newarray .int, 2) := by decide +kernel
theorem dX8_init_73 : decode cX8_init 73 = .ok (.putfield 35, 3) := by decide +kernel
theorem dX8_init_76 : decode cX8_init 76 = .ok (.aload_n 0, 1) := by decide +kernel
theorem dX8_init_77 : decode cX8_init 77 = .ok (.iconst 5, 1) := by decide +kernel
theorem dX8_init_78 : decode cX8_init 78 = .ok (.newarray .int, 2) := by decide +kernel
theorem dX8_init_80 : decode cX8_init 80 = .ok (.putfield 38, 3) := by decide +kernel
theorem dX8_init_83 : decode cX8_init 83 = .ok (.aload_n 0, 1) := by decide +kernel
theorem dX8_init_84 : decode cX8_init 84 = .ok (.iconst 4, 1) := by decide +kernel
theorem dX8_init_85 : decode cX8_init 85 = .ok (.newarray .int, 2) := by decide +kernel
theorem dX8_init_87 : decode cX8_init 87 = .ok (.putfield 41, 3) := by decide +kernel
theorem dX8_init_90 : decode cX8_init 90 = .ok (.aload_n 0, 1) := by decide +kernel
theorem dX8_init_91 : decode cX8_init 91 = .ok (.sipush 200, 3) := by decide +kernel
theorem dX8_init_94 : decode cX8_init 94 = .ok (.newarray .boolean, 2) := by decide +kernel
theorem dX8_init_96 : decode cX8_init 96 = .ok (.putfield 44, 3) := by decide +kernel
theorem dX8_init_99 : decode cX8_init 99 = .ok (.aload_n 0, 1) := by decide +kernel
theorem dX8_init_100 : decode cX8_init 100 = .ok (.sipush 200, 3) := by decide +kernel
theorem dX8_init_103 : decode cX8_init 103 = .ok (.newarray .boolean, 2) := by decide +kernel
theorem dX8_init_105 : decode cX8_init 105 = .ok (.putfield 47, 3) := by decide +kernel
theorem dX8_init_108 : decode cX8_init 108 = .ok (.aload_n 0, 1) := by decide +kernel
theorem dX8_init_109 : decode cX8_init 109 = .ok (.bipush 32, 2) := by decide +kernel
theorem dX8_init_111 : decode cX8_init 111 = .ok (.newarray .int, 2) := by decide +kernel
theorem dX8_init_113 : decode cX8_init 113 = .ok (.putfield 50, 3) := by decide +kernel
theorem dX8_init_116 : decode cX8_init 116 = .ok (.aload_n 0, 1) := by decide +kernel
theorem dX8_init_117 : decode cX8_init 117 = .ok (.getfield 7, 3) := by decide +kernel
theorem dX8_init_120 : decode cX8_init 120 = .ok (.invokestatic 53, 3) := by decide +kernel
theorem dX8_init_123 : decode cX8_init 123 = .ok (.return_, 1) := by decide +kernel
theorem dX8_within_0 : decode cX8_within 0 = .ok (.iload_n 0, 1) := by decide +kernel
theorem dX8_within_1 : decode cX8_within 1 = .ok (.iload_n 1, 1) := by decide +kernel
theorem dX8_within_2 : decode cX8_within 2 = .ok (.if_icmp .lt 12, 3) := by decide +kernel
theorem dX8_within_5 : decode cX8_within 5 = .ok (.iload_n 0, 1) := by decide +kernel
theorem dX8_within_6 : decode cX8_within 6 = .ok (.iload_n 2, 1) := by decide +kernel
theorem dX8_within_7 : decode cX8_within 7 = .ok (.if_icmp .gt 7, 3) := by decide +kernel
theorem dX8_within_10 : decode cX8_within 10 = .ok (.iconst 1, 1) := by decide +kernel
theorem dX8_within_11 : decode cX8_within 11 = .ok (.goto 4, 3) := by decide +kernel
theorem dX8_within_14 : decode cX8_within 14 = .ok (.iconst 0, 1) := by decide +kernel
theorem dX8_within_15 : decode cX8_within 15 = .ok (.ireturn, 1) := by decide +kernel
theorem dX8_has_0 : decode cX8_has 0 = .ok (.iload_n 0, 1) := by decide +kernel
theorem dX8_has_1 : decode cX8_has 1 = .ok (.iload_n 1, 1) := by decide +kernel
theorem dX8_has_2 : decode cX8_has 2 = .ok (.ishr, 1) := by decide +kernel
theorem dX8_has_3 : decode cX8_has 3 = .ok (.iconst 1, 1) := by decide +kernel
theorem dX8_has_4 : decode cX8_has 4 = .ok (.iand, 1) := by decide +kernel
theorem dX8_has_5 : decode cX8_has 5 = .ok (.iconst 1, 1) := by decide +kernel
theorem dX8_has_6 : decode cX8_has 6 = .ok (.if_icmp .ne 7, 3) := by decide +kernel
theorem dX8_has_9 : decode cX8_has 9 = .ok (.iconst 1, 1) := by decide +kernel
theorem dX8_has_10 : decode cX8_has 10 = .ok (.goto 4, 3) := by decide +kernel
theorem dX8_has_13 : decode cX8_has 13 = .ok (.iconst 0, 1) := by decide +kernel
theorem dX8_has_14 : decode cX8_has 14 = .ok (.ireturn, 1) := by decide +kernel
theorem dX8_bares_0 : decode cX8_bares 0 = .ok (.iconst 0, 1) := by decide +kernel
theorem dX8_bares_1 : decode cX8_bares 1 = .ok (.istore_n 1, 1) := by decide +kernel
theorem dX8_bares_2 : decode cX8_bares 2 = .ok (.iload_n 1, 1) := by decide +kernel
theorem dX8_bares_3 : decode cX8_bares 3 = .ok (.bipush 69, 2) := by decide +kernel
theorem dX8_bares_5 : decode cX8_bares 5 = .ok (.if_icmp .ge 24, 3) := by decide +kernel
theorem dX8_bares_8 : decode cX8_bares 8 = .ok (.aload_n 0, 1) := by decide +kernel
theorem dX8_bares_9 : decode cX8_bares 9 = .ok (.iload_n 1, 1) := by decide +kernel
theorem dX8_bares_10 : decode cX8_bares 10 = .ok (.iload_n 1, 1) := by decide +kernel
theorem dX8_bares_11 : decode cX8_bares 11 = .ok (.bipush 64, 2) := by decide +kernel
theorem dX8_bares_13 : decode cX8_bares 13 = .ok (.if_icmp .ge 7, 3) := by decide +kernel
theorem dX8_bares_16 : decode cX8_bares 16 = .ok (.iconst 0, 1) := by decide +kernel
theorem dX8_bares_17 : decode cX8_bares 17 = .ok (.goto 5, 3) := by decide +kernel
theorem dX8_bares_20 : decode cX8_bares 20 = .ok (.bipush (-9), 2) := by decide +kernel
theorem dX8_bares_22 : decode cX8_bares 22 = .ok (.iastore, 1) := by decide +kernel
theorem dX8_bares_23 : decode cX8_bares 23 = .ok (.iinc 1 1, 3) := by decide +kernel
theorem dX8_bares_26 : decode cX8_bares 26 = .ok (.goto (-24), 3) := by decide +kernel
theorem dX8_bares_29 : decode cX8_bares 29 = .ok (.aload_n 0, 1) := by decide +kernel
theorem dX8_bares_30 : decode cX8_bares 30 = .ok (.iconst 0, 1) := by decide +kernel
theorem dX8_bares_31 : decode cX8_bares 31 = .ok (.bipush 20, 2) := by decide +kernel
theorem dX8_bares_33 : decode cX8_bares 33 = .ok (.iastore, 1) := by decide +kernel
theorem dX8_bares_34 : decode cX8_bares 34 = .ok (.aload_n 0, 1) := by decide +kernel
theorem dX8_bares_35 : decode cX8_bares 35 = .ok (.iconst 1, 1) := by decide +kernel
theorem dX8_bares_36 : decode cX8_bares 36 = .ok (.bipush 10, 2) := by decide +kernel
theorem dX8_bares_38 : decode cX8_bares 38 = .ok (.iastore, 1) := by decide +kernel
theorem dX8_bares_39 : decode cX8_bares 39 = .ok (.return_, 1) := by decide +kernel
theorem dX8_skips_0 : decode cX8_skips 0 = .ok (.aload_n 0, 1) := by decide +kernel
theorem dX8_skips_1 : decode cX8_skips 1 = .ok (.getfield 57, 3) := by decide +kernel
theorem dX8_skips_4 : decode cX8_skips 4 = .ok (.aload_n 0, 1) := by decide +kernel
theorem dX8_skips_5 : decode cX8_skips 5 = .ok (.getfield 61, 3) := by decide +kernel
theorem dX8_skips_8 : decode cX8_skips 8 = .ok (.if_icmp .ge 30, 3) := by decide +kernel
theorem dX8_skips_11 : decode cX8_skips 11 = .ok (.aload_n 0, 1) := by decide +kernel
theorem dX8_skips_12 : decode cX8_skips 12 = .ok (.getfield 32, 3) := by decide +kernel
theorem dX8_skips_15 : decode cX8_skips 15 = .ok (.aload_n 0, 1) := by decide +kernel
theorem dX8_skips_16 : decode cX8_skips 16 = .ok (.getfield 57, 3) := by decide +kernel
theorem dX8_skips_19 : decode cX8_skips 19 = .ok (.iaload, 1) := by decide +kernel
theorem dX8_skips_20 : decode cX8_skips 20 = .ok (.bipush 32, 2) := by decide +kernel
theorem dX8_skips_22 : decode cX8_skips 22 = .ok (.if_icmp .ne 16, 3) := by decide +kernel
theorem dX8_skips_25 : decode cX8_skips 25 = .ok (.aload_n 0, 1) := by decide +kernel
theorem dX8_skips_26 : decode cX8_skips 26 = .ok (.dup, 1) := by decide +kernel
theorem dX8_skips_27 : decode cX8_skips 27 = .ok (.getfield 57, 3) := by decide +kernel
theorem dX8_skips_30 : decode cX8_skips 30 = .ok (.iconst 1, 1) := by decide +kernel
theorem dX8_skips_31 : decode cX8_skips 31 = .ok (.iadd, 1) := by decide +kernel
theorem dX8_skips_32 : decode cX8_skips 32 = .ok (.putfield 57, 3) := by decide +kernel
theorem dX8_skips_35 : decode cX8_skips 35 = .ok (.goto (-35), 3) := by decide +kernel
theorem dX8_skips_38 : decode cX8_skips 38 = .ok (.aload_n 0, 1) := by decide +kernel
theorem dX8_skips_39 : decode cX8_skips 39 = .ok (.aload_n 0, 1) := by decide +kernel
theorem dX8_skips_40 : decode cX8_skips 40 = .ok (.getfield 57, 3) := by decide +kernel
theorem dX8_skips_43 : decode cX8_skips 43 = .ok (.putfield 64, 3) := by decide +kernel
theorem dX8_skips_46 : decode cX8_skips 46 = .ok (.return_, 1) := by decide +kernel
theorem dX8_isAt_0 : decode cX8_isAt 0 = .ok (.aload_n 0, 1) := by decide +kernel
theorem dX8_isAt_1 : decode cX8_isAt 1 = .ok (.getfield 57, 3) := by decide +kernel
theorem dX8_isAt_4 : decode cX8_isAt 4 = .ok (.aload_n 0, 1) := by decide +kernel
theorem dX8_isAt_5 : decode cX8_isAt 5 = .ok (.getfield 61, 3) := by decide +kernel
theorem dX8_isAt_8 : decode cX8_isAt 8 = .ok (.if_icmp .ge 24, 3) := by decide +kernel
theorem dX8_isAt_11 : decode cX8_isAt 11 = .ok (.aload_n 0, 1) := by decide +kernel
theorem dX8_isAt_12 : decode cX8_isAt 12 = .ok (.getfield 32, 3) := by decide +kernel
theorem dX8_isAt_15 : decode cX8_isAt 15 = .ok (.aload_n 0, 1) := by decide +kernel
theorem dX8_isAt_16 : decode cX8_isAt 16 = .ok (.getfield 57, 3) := by decide +kernel
theorem dX8_isAt_19 : decode cX8_isAt 19 = .ok (.iaload, 1) := by decide +kernel
theorem dX8_isAt_20 : decode cX8_isAt 20 = .ok (.iload_n 1, 1) := by decide +kernel
theorem dX8_isAt_21 : decode cX8_isAt 21 = .ok (.iload_n 2, 1) := by decide +kernel
theorem dX8_isAt_22 : decode cX8_isAt 22 = .ok (.invokestatic 67, 3) := by decide +kernel
theorem dX8_isAt_25 : decode cX8_isAt 25 = .ok (.ifCond .eq 7, 3) := by decide +kernel
theorem dX8_isAt_28 : decode cX8_isAt 28 = .ok (.iconst 1, 1) := by decide +kernel
theorem dX8_isAt_29 : decode cX8_isAt 29 = .ok (.goto 4, 3) := by decide +kernel
theorem dX8_isAt_32 : decode cX8_isAt 32 = .ok (.iconst 0, 1) := by decide +kernel
theorem dX8_isAt_33 : decode cX8_isAt 33 = .ok (.ireturn, 1) := by decide +kernel
theorem dX8_passesEnd_0 : decode cX8_passesEnd 0 = .ok (.aload_n 0, 1) := by decide +kernel
theorem dX8_passesEnd_1 : decode cX8_passesEnd 1 = .ok (.invokevirtual 71, 3) := by decide +kernel
theorem dX8_passesEnd_4 : decode cX8_passesEnd 4 = .ok (.aload_n 0, 1) := by decide +kernel
theorem dX8_passesEnd_5 : decode cX8_passesEnd 5 = .ok (.bipush 59, 2) := by decide +kernel
theorem dX8_passesEnd_7 : decode cX8_passesEnd 7 = .ok (.bipush 59, 2) := by decide +kernel
theorem dX8_passesEnd_9 : decode cX8_passesEnd 9 = .ok (.invokevirtual 74, 3) := by decide +kernel
theorem dX8_passesEnd_12 : decode cX8_passesEnd 12 = .ok (.istore_n 1, 1) := by decide +kernel
theorem dX8_passesEnd_13 : decode cX8_passesEnd 13 = .ok (.aload_n 0, 1) := by decide +kernel
theorem dX8_passesEnd_14 : decode cX8_passesEnd 14 = .ok (.dup, 1) := by decide +kernel
theorem dX8_passesEnd_15 : decode cX8_passesEnd 15 = .ok (.getfield 57, 3) := by decide +kernel
theorem dX8_passesEnd_18 : decode cX8_passesEnd 18 = .ok (.iload_n 1, 1) := by decide +kernel
theorem dX8_passesEnd_19 : decode cX8_passesEnd 19 = .ok (.ifCond .eq 7, 3) := by decide +kernel
theorem dX8_passesEnd_22 : decode cX8_passesEnd 22 = .ok (.iconst 1, 1) := by decide +kernel
theorem dX8_passesEnd_23 : decode cX8_passesEnd 23 = .ok (.goto 4, 3) := by decide +kernel
theorem dX8_passesEnd_26 : decode cX8_passesEnd 26 = .ok (.iconst 0, 1) := by decide +kernel
theorem dX8_passesEnd_27 : decode cX8_passesEnd 27 = .ok (.iadd, 1) := by decide +kernel
theorem dX8_passesEnd_28 : decode cX8_passesEnd 28 = .ok (.putfield 57, 3) := by decide +kernel
theorem dX8_passesEnd_31 : decode cX8_passesEnd 31 = .ok (.iload_n 1, 1) := by decide +kernel
theorem dX8_passesEnd_32 : decode cX8_passesEnd 32 = .ok (.ireturn, 1) := by decide +kernel
theorem dX8_puts_0 : decode cX8_puts 0 = .ok (.aload_n 0, 1) := by decide +kernel
theorem dX8_puts_1 : decode cX8_puts 1 = .ok (.invokevirtual 71, 3) := by decide +kernel
theorem dX8_puts_4 : decode cX8_puts 4 = .ok (.iconst 0, 1) := by decide +kernel
theorem dX8_puts_5 : decode cX8_puts 5 = .ok (.istore 4, 2) := by decide +kernel
theorem dX8_puts_7 : decode cX8_puts 7 = .ok (.iconst 0, 1) := by decide +kernel
theorem dX8_puts_8 : decode cX8_puts 8 = .ok (.istore 5, 2) := by decide +kernel
theorem dX8_puts_10 : decode cX8_puts 10 = .ok (.aload_n 0, 1) := by decide +kernel
theorem dX8_puts_11 : decode cX8_puts 11 = .ok (.bipush 48, 2) := by decide +kernel
theorem dX8_puts_13 : decode cX8_puts 13 = .ok (.bipush 57, 2) := by decide +kernel
theorem dX8_puts_15 : decode cX8_puts 15 = .ok (.invokevirtual 74, 3) := by decide +kernel
theorem dX8_puts_18 : decode cX8_puts 18 = .ok (.ifCond .eq 51, 3) := by decide +kernel
theorem dX8_puts_21 : decode cX8_puts 21 = .ok (.iload 4, 2) := by decide +kernel
theorem dX8_puts_23 : decode cX8_puts 23 = .ok (.bipush 99, 2) := by decide +kernel
theorem dX8_puts_25 : decode cX8_puts 25 = .ok (.if_icmp .le 8, 3) := by decide +kernel
theorem dX8_puts_28 : decode cX8_puts 28 = .ok (.bipush 100, 2) := by decide +kernel
theorem dX8_puts_30 : decode cX8_puts 30 = .ok (.goto 21, 3) := by decide +kernel
theorem dX8_puts_33 : decode cX8_puts 33 = .ok (.bipush 10, 2) := by decide +kernel
theorem dX8_puts_35 : decode cX8_puts 35 = .ok (.iload 4, 2) := by decide +kernel
theorem dX8_puts_37 : decode cX8_puts 37 = .ok (.imul, 1) := by decide +kernel
theorem dX8_puts_38 : decode cX8_puts 38 = .ok (.aload_n 0, 1) := by decide +kernel
theorem dX8_puts_39 : decode cX8_puts 39 = .ok (.getfield 32, 3) := by decide +kernel
theorem dX8_puts_42 : decode cX8_puts 42 = .ok (.aload_n 0, 1) := by decide +kernel
theorem dX8_puts_43 : decode cX8_puts 43 = .ok (.getfield 57, 3) := by decide +kernel
theorem dX8_puts_46 : decode cX8_puts 46 = .ok (.iaload, 1) := by decide +kernel
theorem dX8_puts_47 : decode cX8_puts 47 = .ok (.iadd, 1) := by decide +kernel
theorem dX8_puts_48 : decode cX8_puts 48 = .ok (.bipush 48, 2) := by decide +kernel
theorem dX8_puts_50 : decode cX8_puts 50 = .ok (.isub, 1) := by decide +kernel
theorem dX8_puts_51 : decode cX8_puts 51 = .ok (.istore 4, 2) := by decide +kernel
theorem dX8_puts_53 : decode cX8_puts 53 = .ok (.aload_n 0, 1) := by decide +kernel
theorem dX8_puts_54 : decode cX8_puts 54 = .ok (.dup, 1) := by decide +kernel
theorem dX8_puts_55 : decode cX8_puts 55 = .ok (.getfield 57, 3) := by decide +kernel
theorem dX8_puts_58 : decode cX8_puts 58 = .ok (.iconst 1, 1) := by decide +kernel
theorem dX8_puts_59 : decode cX8_puts 59 = .ok (.iadd, 1) := by decide +kernel
theorem dX8_puts_60 : decode cX8_puts 60 = .ok (.putfield 57, 3) := by decide +kernel
theorem dX8_puts_63 : decode cX8_puts 63 = .ok (.iinc 5 1, 3) := by decide +kernel
theorem dX8_puts_66 : decode cX8_puts 66 = .ok (.goto (-56), 3) := by decide +kernel
theorem dX8_puts_69 : decode cX8_puts 69 = .ok (.aload_n 0, 1) := by decide +kernel
theorem dX8_puts_70 : decode cX8_puts 70 = .ok (.getfield 13, 3) := by decide +kernel
theorem dX8_puts_73 : decode cX8_puts 73 = .ok (.iload_n 1, 1) := by decide +kernel
theorem dX8_puts_74 : decode cX8_puts 74 = .ok (.iload 4, 2) := by decide +kernel
theorem dX8_puts_76 : decode cX8_puts 76 = .ok (.iastore, 1) := by decide +kernel
theorem dX8_puts_77 : decode cX8_puts 77 = .ok (.iload 5, 2) := by decide +kernel
theorem dX8_puts_79 : decode cX8_puts 79 = .ok (.ifCond .le 44, 3) := by decide +kernel
theorem dX8_puts_82 : decode cX8_puts 82 = .ok (.iload 4, 2) := by decide +kernel
theorem dX8_puts_84 : decode cX8_puts 84 = .ok (.bipush 99, 2) := by decide +kernel
theorem dX8_puts_86 : decode cX8_puts 86 = .ok (.if_icmp .gt 37, 3) := by decide +kernel
theorem dX8_puts_89 : decode cX8_puts 89 = .ok (.iload 5, 2) := by decide +kernel
theorem dX8_puts_91 : decode cX8_puts 91 = .ok (.iconst 1, 1) := by decide +kernel
theorem dX8_puts_92 : decode cX8_puts 92 = .ok (.if_icmp .eq 17, 3) := by decide +kernel
theorem dX8_puts_95 : decode cX8_puts 95 = .ok (.aload_n 0, 1) := by decide +kernel
theorem dX8_puts_96 : decode cX8_puts 96 = .ok (.getfield 32, 3) := by decide +kernel
theorem dX8_puts_99 : decode cX8_puts 99 = .ok (.aload_n 0, 1) := by decide +kernel
theorem dX8_puts_100 : decode cX8_puts 100 = .ok (.getfield 64, 3) := by decide +kernel
theorem dX8_puts_103 : decode cX8_puts 103 = .ok (.iaload, 1) := by decide +kernel
theorem dX8_puts_104 : decode cX8_puts 104 = .ok (.bipush 48, 2) := by decide +kernel
theorem dX8_puts_106 : decode cX8_puts 106 = .ok (.if_icmp .eq 17, 3) := by decide +kernel
theorem dX8_puts_109 : decode cX8_puts 109 = .ok (.iload 4, 2) := by decide +kernel
theorem dX8_puts_111 : decode cX8_puts 111 = .ok (.iload_n 2, 1) := by decide +kernel
theorem dX8_puts_112 : decode cX8_puts 112 = .ok (.iload_n 3, 1) := by decide +kernel
theorem dX8_puts_113 : decode cX8_puts 113 = .ok (.invokestatic 67, 3) := by decide +kernel
theorem dX8_puts_116 : decode cX8_puts 116 = .ok (.ifCond .eq 7, 3) := by decide +kernel
theorem dX8_puts_119 : decode cX8_puts 119 = .ok (.iconst 1, 1) := by decide +kernel
theorem dX8_puts_120 : decode cX8_puts 120 = .ok (.goto 4, 3) := by decide +kernel
theorem dX8_puts_123 : decode cX8_puts 123 = .ok (.iconst 0, 1) := by decide +kernel
theorem dX8_puts_124 : decode cX8_puts 124 = .ok (.ireturn, 1) := by decide +kernel
theorem dX8_spells_0 : decode cX8_spells 0 = .ok (.iload 4, 2) := by decide +kernel
theorem dX8_spells_2 : decode cX8_spells 2 = .ok (.ifCond .ne 7, 3) := by decide +kernel
theorem dX8_spells_5 : decode cX8_spells 5 = .ok (.iconst 3, 1) := by decide +kernel
theorem dX8_spells_6 : decode cX8_spells 6 = .ok (.goto 4, 3) := by decide +kernel
theorem dX8_spells_9 : decode cX8_spells 9 = .ok (.iconst 4, 1) := by decide +kernel
theorem dX8_spells_10 : decode cX8_spells 10 = .ok (.istore 5, 2) := by decide +kernel
theorem dX8_spells_12 : decode cX8_spells 12 = .ok (.aload_n 0, 1) := by decide +kernel
theorem dX8_spells_13 : decode cX8_spells 13 = .ok (.getfield 57, 3) := by decide +kernel
theorem dX8_spells_16 : decode cX8_spells 16 = .ok (.aload_n 0, 1) := by decide +kernel
theorem dX8_spells_17 : decode cX8_spells 17 = .ok (.getfield 64, 3) := by decide +kernel
theorem dX8_spells_20 : decode cX8_spells 20 = .ok (.isub, 1) := by decide +kernel
theorem dX8_spells_21 : decode cX8_spells 21 = .ok (.iload 5, 2) := by decide +kernel
theorem dX8_spells_23 : decode cX8_spells 23 = .ok (.if_icmp .ne 50, 3) := by decide +kernel
theorem dX8_spells_26 : decode cX8_spells 26 = .ok (.aload_n 0, 1) := by decide +kernel
theorem dX8_spells_27 : decode cX8_spells 27 = .ok (.getfield 32, 3) := by decide +kernel
theorem dX8_spells_30 : decode cX8_spells 30 = .ok (.aload_n 0, 1) := by decide +kernel
theorem dX8_spells_31 : decode cX8_spells 31 = .ok (.getfield 64, 3) := by decide +kernel
theorem dX8_spells_34 : decode cX8_spells 34 = .ok (.iaload, 1) := by decide +kernel
theorem dX8_spells_35 : decode cX8_spells 35 = .ok (.iload_n 1, 1) := by decide +kernel
theorem dX8_spells_36 : decode cX8_spells 36 = .ok (.if_icmp .ne 37, 3) := by decide +kernel
theorem dX8_spells_39 : decode cX8_spells 39 = .ok (.aload_n 0, 1) := by decide +kernel
theorem dX8_spells_40 : decode cX8_spells 40 = .ok (.getfield 32, 3) := by decide +kernel
theorem dX8_spells_43 : decode cX8_spells 43 = .ok (.aload_n 0, 1) := by decide +kernel
theorem dX8_spells_44 : decode cX8_spells 44 = .ok (.getfield 64, 3) := by decide +kernel
end
section
theorem dX8_spells_47 : decode cX8_spells 47 = .ok (.iconst 1, 1) := by decide +kernel
theorem dX8_spells_48 : decode cX8_spells 48 = .ok (.iadd, 1) := by decide +kernel
theorem dX8_spells_49 : decode cX8_spells 49 = .ok (.iaload, 1) := by decide +kernel
theorem dX8_spells_50 : decode cX8_spells 50 = .ok (.iload_n 2, 1) := by decide +kernel
theorem dX8_spells_51 : decode cX8_spells 51 = .ok (.if_icmp .ne 22, 3) := by decide +kernel
theorem dX8_spells_54 : decode cX8_spells 54 = .ok (.aload_n 0, 1) := by decide +kernel
theorem dX8_spells_55 : decode cX8_spells 55 = .ok (.getfield 32, 3) := by decide +kernel
theorem dX8_spells_58 : decode cX8_spells 58 = .ok (.aload_n 0, 1) := by decide +kernel
theorem dX8_spells_59 : decode cX8_spells 59 = .ok (.getfield 64, 3) := by decide +kernel
theorem dX8_spells_62 : decode cX8_spells 62 = .ok (.iconst 2, 1) := by decide +kernel
theorem dX8_spells_63 : decode cX8_spells 63 = .ok (.iadd, 1) := by decide +kernel
theorem dX8_spells_64 : decode cX8_spells 64 = .ok (.iaload, 1) := by decide +kernel
theorem dX8_spells_65 : decode cX8_spells 65 = .ok (.iload_n 3, 1) := by decide +kernel
theorem dX8_spells_66 : decode cX8_spells 66 = .ok (.if_icmp .ne 7, 3) := by decide +kernel
theorem dX8_spells_69 : decode cX8_spells 69 = .ok (.iconst 1, 1) := by decide +kernel
theorem dX8_spells_70 : decode cX8_spells 70 = .ok (.goto 4, 3) := by decide +kernel
theorem dX8_spells_73 : decode cX8_spells 73 = .ok (.iconst 0, 1) := by decide +kernel
theorem dX8_spells_74 : decode cX8_spells 74 = .ok (.istore 6, 2) := by decide +kernel
theorem dX8_spells_76 : decode cX8_spells 76 = .ok (.iload 6, 2) := by decide +kernel
theorem dX8_spells_78 : decode cX8_spells 78 = .ok (.ifCond .eq 28, 3) := by decide +kernel
theorem dX8_spells_81 : decode cX8_spells 81 = .ok (.iload 4, 2) := by decide +kernel
theorem dX8_spells_83 : decode cX8_spells 83 = .ok (.ifCond .eq 19, 3) := by decide +kernel
theorem dX8_spells_86 : decode cX8_spells 86 = .ok (.aload_n 0, 1) := by decide +kernel
theorem dX8_spells_87 : decode cX8_spells 87 = .ok (.getfield 32, 3) := by decide +kernel
theorem dX8_spells_90 : decode cX8_spells 90 = .ok (.aload_n 0, 1) := by decide +kernel
theorem dX8_spells_91 : decode cX8_spells 91 = .ok (.getfield 64, 3) := by decide +kernel
theorem dX8_spells_94 : decode cX8_spells 94 = .ok (.iconst 3, 1) := by decide +kernel
theorem dX8_spells_95 : decode cX8_spells 95 = .ok (.iadd, 1) := by decide +kernel
theorem dX8_spells_96 : decode cX8_spells 96 = .ok (.iaload, 1) := by decide +kernel
theorem dX8_spells_97 : decode cX8_spells 97 = .ok (.iload 4, 2) := by decide +kernel
theorem dX8_spells_99 : decode cX8_spells 99 = .ok (.if_icmp .ne 7, 3) := by decide +kernel
theorem dX8_spells_102 : decode cX8_spells 102 = .ok (.iconst 1, 1) := by decide +kernel
theorem dX8_spells_103 : decode cX8_spells 103 = .ok (.goto 4, 3) := by decide +kernel
theorem dX8_spells_106 : decode cX8_spells 106 = .ok (.iconst 0, 1) := by decide +kernel
theorem dX8_spells_107 : decode cX8_spells 107 = .ok (.ireturn, 1) := by decide +kernel
theorem dX8_readsWall_0 : decode cX8_readsWall 0 = .ok (.aload_n 0, 1) := by decide +kernel
theorem dX8_readsWall_1 : decode cX8_readsWall 1 = .ok (.getfield 78, 3) := by decide +kernel
theorem dX8_readsWall_4 : decode cX8_readsWall 4 = .ok (.ifCond .ne 41, 3) := by decide +kernel
theorem dX8_readsWall_7 : decode cX8_readsWall 7 = .ok (.aload_n 0, 1) := by decide +kernel
theorem dX8_readsWall_8 : decode cX8_readsWall 8 = .ok (.iconst 0, 1) := by decide +kernel
theorem dX8_readsWall_9 : decode cX8_readsWall 9 = .ok (.bipush 10, 2) := by decide +kernel
theorem dX8_readsWall_11 : decode cX8_readsWall 11 = .ok (.bipush 40, 2) := by decide +kernel
theorem dX8_readsWall_13 : decode cX8_readsWall 13 = .ok (.invokevirtual 82, 3) := by decide +kernel
theorem dX8_readsWall_16 : decode cX8_readsWall 16 = .ok (.ifCond .eq 29, 3) := by decide +kernel
theorem dX8_readsWall_19 : decode cX8_readsWall 19 = .ok (.aload_n 0, 1) := by decide +kernel
theorem dX8_readsWall_20 : decode cX8_readsWall 20 = .ok (.iconst 1, 1) := by decide +kernel
theorem dX8_readsWall_21 : decode cX8_readsWall 21 = .ok (.iconst 5, 1) := by decide +kernel
theorem dX8_readsWall_22 : decode cX8_readsWall 22 = .ok (.bipush 20, 2) := by decide +kernel
theorem dX8_readsWall_24 : decode cX8_readsWall 24 = .ok (.invokevirtual 82, 3) := by decide +kernel
theorem dX8_readsWall_27 : decode cX8_readsWall 27 = .ok (.ifCond .eq 18, 3) := by decide +kernel
theorem dX8_readsWall_30 : decode cX8_readsWall 30 = .ok (.aload_n 0, 1) := by decide +kernel
theorem dX8_readsWall_31 : decode cX8_readsWall 31 = .ok (.iconst 2, 1) := by decide +kernel
theorem dX8_readsWall_32 : decode cX8_readsWall 32 = .ok (.iconst 0, 1) := by decide +kernel
theorem dX8_readsWall_33 : decode cX8_readsWall 33 = .ok (.bipush 9, 2) := by decide +kernel
theorem dX8_readsWall_35 : decode cX8_readsWall 35 = .ok (.invokevirtual 82, 3) := by decide +kernel
theorem dX8_readsWall_38 : decode cX8_readsWall 38 = .ok (.ifCond .eq 7, 3) := by decide +kernel
theorem dX8_readsWall_41 : decode cX8_readsWall 41 = .ok (.iconst 1, 1) := by decide +kernel
theorem dX8_readsWall_42 : decode cX8_readsWall 42 = .ok (.goto 4, 3) := by decide +kernel
theorem dX8_readsWall_45 : decode cX8_readsWall 45 = .ok (.iconst 0, 1) := by decide +kernel
theorem dX8_readsWall_46 : decode cX8_readsWall 46 = .ok (.istore_n 1, 1) := by decide +kernel
theorem dX8_readsWall_47 : decode cX8_readsWall 47 = .ok (.aload_n 0, 1) := by decide +kernel
theorem dX8_readsWall_48 : decode cX8_readsWall 48 = .ok (.iconst 1, 1) := by decide +kernel
theorem dX8_readsWall_49 : decode cX8_readsWall 49 = .ok (.putfield 78, 3) := by decide +kernel
theorem dX8_readsWall_52 : decode cX8_readsWall 52 = .ok (.iload_n 1, 1) := by decide +kernel
theorem dX8_readsWall_53 : decode cX8_readsWall 53 = .ok (.ireturn, 1) := by decide +kernel
theorem dX8_readsPicture_0 : decode cX8_readsPicture 0 = .ok (.iconst 4, 1) := by decide +kernel
theorem dX8_readsPicture_1 : decode cX8_readsPicture 1 = .ok (.iconst 4, 1) := by decide +kernel
theorem dX8_readsPicture_2 : decode cX8_readsPicture 2 = .ok (.aload_n 0, 1) := by decide +kernel
theorem dX8_readsPicture_3 : decode cX8_readsPicture 3 = .ok (.getfield 13, 3) := by decide +kernel
theorem dX8_readsPicture_6 : decode cX8_readsPicture 6 = .ok (.iconst 3, 1) := by decide +kernel
theorem dX8_readsPicture_7 : decode cX8_readsPicture 7 = .ok (.iaload, 1) := by decide +kernel
theorem dX8_readsPicture_8 : decode cX8_readsPicture 8 = .ok (.imul, 1) := by decide +kernel
theorem dX8_readsPicture_9 : decode cX8_readsPicture 9 = .ok (.iadd, 1) := by decide +kernel
theorem dX8_readsPicture_10 : decode cX8_readsPicture 10 = .ok (.istore_n 1, 1) := by decide +kernel
theorem dX8_readsPicture_11 : decode cX8_readsPicture 11 = .ok (.aload_n 0, 1) := by decide +kernel
theorem dX8_readsPicture_12 : decode cX8_readsPicture 12 = .ok (.getfield 13, 3) := by decide +kernel
theorem dX8_readsPicture_15 : decode cX8_readsPicture 15 = .ok (.iconst 3, 1) := by decide +kernel
theorem dX8_readsPicture_16 : decode cX8_readsPicture 16 = .ok (.iaload, 1) := by decide +kernel
theorem dX8_readsPicture_17 : decode cX8_readsPicture 17 = .ok (.iconst 5, 1) := by decide +kernel
theorem dX8_readsPicture_18 : decode cX8_readsPicture 18 = .ok (.if_icmp .eq 27, 3) := by decide +kernel
theorem dX8_readsPicture_21 : decode cX8_readsPicture 21 = .ok (.aload_n 0, 1) := by decide +kernel
theorem dX8_readsPicture_22 : decode cX8_readsPicture 22 = .ok (.iload_n 1, 1) := by decide +kernel
theorem dX8_readsPicture_23 : decode cX8_readsPicture 23 = .ok (.iconst 1, 1) := by decide +kernel
theorem dX8_readsPicture_24 : decode cX8_readsPicture 24 = .ok (.bipush 9, 2) := by decide +kernel
theorem dX8_readsPicture_26 : decode cX8_readsPicture 26 = .ok (.invokevirtual 82, 3) := by decide +kernel
theorem dX8_readsPicture_29 : decode cX8_readsPicture 29 = .ok (.ifCond .eq 16, 3) := by decide +kernel
theorem dX8_readsPicture_32 : decode cX8_readsPicture 32 = .ok (.aload_n 0, 1) := by decide +kernel
theorem dX8_readsPicture_33 : decode cX8_readsPicture 33 = .ok (.iload_n 1, 1) := by decide +kernel
theorem dX8_readsPicture_34 : decode cX8_readsPicture 34 = .ok (.iconst 1, 1) := by decide +kernel
theorem dX8_readsPicture_35 : decode cX8_readsPicture 35 = .ok (.iadd, 1) := by decide +kernel
theorem dX8_readsPicture_36 : decode cX8_readsPicture 36 = .ok (.iconst 1, 1) := by decide +kernel
theorem dX8_readsPicture_37 : decode cX8_readsPicture 37 = .ok (.bipush 9, 2) := by decide +kernel
theorem dX8_readsPicture_39 : decode cX8_readsPicture 39 = .ok (.invokevirtual 82, 3) := by decide +kernel
theorem dX8_readsPicture_42 : decode cX8_readsPicture 42 = .ok (.ifCond .ne 5, 3) := by decide +kernel
theorem dX8_readsPicture_45 : decode cX8_readsPicture 45 = .ok (.iconst 0, 1) := by decide +kernel
theorem dX8_readsPicture_46 : decode cX8_readsPicture 46 = .ok (.ireturn, 1) := by decide +kernel
theorem dX8_readsPicture_47 : decode cX8_readsPicture 47 = .ok (.aload_n 0, 1) := by decide +kernel
theorem dX8_readsPicture_48 : decode cX8_readsPicture 48 = .ok (.iload_n 1, 1) := by decide +kernel
theorem dX8_readsPicture_49 : decode cX8_readsPicture 49 = .ok (.iconst 2, 1) := by decide +kernel
theorem dX8_readsPicture_50 : decode cX8_readsPicture 50 = .ok (.iadd, 1) := by decide +kernel
theorem dX8_readsPicture_51 : decode cX8_readsPicture 51 = .ok (.iconst 0, 1) := by decide +kernel
theorem dX8_readsPicture_52 : decode cX8_readsPicture 52 = .ok (.aload_n 0, 1) := by decide +kernel
theorem dX8_readsPicture_53 : decode cX8_readsPicture 53 = .ok (.getfield 13, 3) := by decide +kernel
theorem dX8_readsPicture_56 : decode cX8_readsPicture 56 = .ok (.iload_n 1, 1) := by decide +kernel
theorem dX8_readsPicture_57 : decode cX8_readsPicture 57 = .ok (.iconst 1, 1) := by decide +kernel
theorem dX8_readsPicture_58 : decode cX8_readsPicture 58 = .ok (.iadd, 1) := by decide +kernel
theorem dX8_readsPicture_59 : decode cX8_readsPicture 59 = .ok (.iaload, 1) := by decide +kernel
theorem dX8_readsPicture_60 : decode cX8_readsPicture 60 = .ok (.invokevirtual 82, 3) := by decide +kernel
theorem dX8_readsPicture_63 : decode cX8_readsPicture 63 = .ok (.ifCond .eq 16, 3) := by decide +kernel
theorem dX8_readsPicture_66 : decode cX8_readsPicture 66 = .ok (.aload_n 0, 1) := by decide +kernel
theorem dX8_readsPicture_67 : decode cX8_readsPicture 67 = .ok (.iload_n 1, 1) := by decide +kernel
theorem dX8_readsPicture_68 : decode cX8_readsPicture 68 = .ok (.iconst 3, 1) := by decide +kernel
theorem dX8_readsPicture_69 : decode cX8_readsPicture 69 = .ok (.iadd, 1) := by decide +kernel
theorem dX8_readsPicture_70 : decode cX8_readsPicture 70 = .ok (.iconst 1, 1) := by decide +kernel
theorem dX8_readsPicture_71 : decode cX8_readsPicture 71 = .ok (.bipush 9, 2) := by decide +kernel
theorem dX8_readsPicture_73 : decode cX8_readsPicture 73 = .ok (.invokevirtual 82, 3) := by decide +kernel
theorem dX8_readsPicture_76 : decode cX8_readsPicture 76 = .ok (.ifCond .ne 5, 3) := by decide +kernel
theorem dX8_readsPicture_79 : decode cX8_readsPicture 79 = .ok (.iconst 0, 1) := by decide +kernel
theorem dX8_readsPicture_80 : decode cX8_readsPicture 80 = .ok (.ireturn, 1) := by decide +kernel
theorem dX8_readsPicture_81 : decode cX8_readsPicture 81 = .ok (.aload_n 0, 1) := by decide +kernel
theorem dX8_readsPicture_82 : decode cX8_readsPicture 82 = .ok (.getfield 13, 3) := by decide +kernel
theorem dX8_readsPicture_85 : decode cX8_readsPicture 85 = .ok (.iconst 3, 1) := by decide +kernel
theorem dX8_readsPicture_86 : decode cX8_readsPicture 86 = .ok (.dup2, 1) := by decide +kernel
theorem dX8_readsPicture_87 : decode cX8_readsPicture 87 = .ok (.iaload, 1) := by decide +kernel
theorem dX8_readsPicture_88 : decode cX8_readsPicture 88 = .ok (.iconst 1, 1) := by decide +kernel
theorem dX8_readsPicture_89 : decode cX8_readsPicture 89 = .ok (.iadd, 1) := by decide +kernel
theorem dX8_readsPicture_90 : decode cX8_readsPicture 90 = .ok (.iastore, 1) := by decide +kernel
theorem dX8_readsPicture_91 : decode cX8_readsPicture 91 = .ok (.iconst 1, 1) := by decide +kernel
theorem dX8_readsPicture_92 : decode cX8_readsPicture 92 = .ok (.ireturn, 1) := by decide +kernel
theorem dX8_readsDoor_0 : decode cX8_readsDoor 0 = .ok (.bipush 25, 2) := by decide +kernel
theorem dX8_readsDoor_2 : decode cX8_readsDoor 2 = .ok (.iconst 2, 1) := by decide +kernel
theorem dX8_readsDoor_3 : decode cX8_readsDoor 3 = .ok (.aload_n 0, 1) := by decide +kernel
theorem dX8_readsDoor_4 : decode cX8_readsDoor 4 = .ok (.getfield 13, 3) := by decide +kernel
theorem dX8_readsDoor_7 : decode cX8_readsDoor 7 = .ok (.bipush 24, 2) := by decide +kernel
theorem dX8_readsDoor_9 : decode cX8_readsDoor 9 = .ok (.iaload, 1) := by decide +kernel
theorem dX8_readsDoor_10 : decode cX8_readsDoor 10 = .ok (.imul, 1) := by decide +kernel
theorem dX8_readsDoor_11 : decode cX8_readsDoor 11 = .ok (.iadd, 1) := by decide +kernel
theorem dX8_readsDoor_12 : decode cX8_readsDoor 12 = .ok (.istore_n 1, 1) := by decide +kernel
theorem dX8_readsDoor_13 : decode cX8_readsDoor 13 = .ok (.aload_n 0, 1) := by decide +kernel
theorem dX8_readsDoor_14 : decode cX8_readsDoor 14 = .ok (.getfield 13, 3) := by decide +kernel
theorem dX8_readsDoor_17 : decode cX8_readsDoor 17 = .ok (.bipush 24, 2) := by decide +kernel
theorem dX8_readsDoor_19 : decode cX8_readsDoor 19 = .ok (.iaload, 1) := by decide +kernel
theorem dX8_readsDoor_20 : decode cX8_readsDoor 20 = .ok (.iconst 3, 1) := by decide +kernel
theorem dX8_readsDoor_21 : decode cX8_readsDoor 21 = .ok (.if_icmp .eq 34, 3) := by decide +kernel
theorem dX8_readsDoor_24 : decode cX8_readsDoor 24 = .ok (.aload_n 0, 1) := by decide +kernel
theorem dX8_readsDoor_25 : decode cX8_readsDoor 25 = .ok (.iload_n 1, 1) := by decide +kernel
theorem dX8_readsDoor_26 : decode cX8_readsDoor 26 = .ok (.iconst 0, 1) := by decide +kernel
theorem dX8_readsDoor_27 : decode cX8_readsDoor 27 = .ok (.bipush 39, 2) := by decide +kernel
theorem dX8_readsDoor_29 : decode cX8_readsDoor 29 = .ok (.invokevirtual 82, 3) := by decide +kernel
theorem dX8_readsDoor_32 : decode cX8_readsDoor 32 = .ok (.ifCond .eq 23, 3) := by decide +kernel
theorem dX8_readsDoor_35 : decode cX8_readsDoor 35 = .ok (.aload_n 0, 1) := by decide +kernel
theorem dX8_readsDoor_36 : decode cX8_readsDoor 36 = .ok (.iload_n 1, 1) := by decide +kernel
theorem dX8_readsDoor_37 : decode cX8_readsDoor 37 = .ok (.iconst 1, 1) := by decide +kernel
theorem dX8_readsDoor_38 : decode cX8_readsDoor 38 = .ok (.iadd, 1) := by decide +kernel
theorem dX8_readsDoor_39 : decode cX8_readsDoor 39 = .ok (.aload_n 0, 1) := by decide +kernel
theorem dX8_readsDoor_40 : decode cX8_readsDoor 40 = .ok (.getfield 13, 3) := by decide +kernel
theorem dX8_readsDoor_43 : decode cX8_readsDoor 43 = .ok (.iload_n 1, 1) := by decide +kernel
theorem dX8_readsDoor_44 : decode cX8_readsDoor 44 = .ok (.iaload, 1) := by decide +kernel
theorem dX8_readsDoor_45 : decode cX8_readsDoor 45 = .ok (.iconst 1, 1) := by decide +kernel
theorem dX8_readsDoor_46 : decode cX8_readsDoor 46 = .ok (.iadd, 1) := by decide +kernel
theorem dX8_readsDoor_47 : decode cX8_readsDoor 47 = .ok (.bipush 40, 2) := by decide +kernel
theorem dX8_readsDoor_49 : decode cX8_readsDoor 49 = .ok (.invokevirtual 82, 3) := by decide +kernel
theorem dX8_readsDoor_52 : decode cX8_readsDoor 52 = .ok (.ifCond .ne 5, 3) := by decide +kernel
theorem dX8_readsDoor_55 : decode cX8_readsDoor 55 = .ok (.iconst 0, 1) := by decide +kernel
theorem dX8_readsDoor_56 : decode cX8_readsDoor 56 = .ok (.ireturn, 1) := by decide +kernel
theorem dX8_readsDoor_57 : decode cX8_readsDoor 57 = .ok (.aload_n 0, 1) := by decide +kernel
theorem dX8_readsDoor_58 : decode cX8_readsDoor 58 = .ok (.getfield 13, 3) := by decide +kernel
theorem dX8_readsDoor_61 : decode cX8_readsDoor 61 = .ok (.bipush 24, 2) := by decide +kernel
theorem dX8_readsDoor_63 : decode cX8_readsDoor 63 = .ok (.dup2, 1) := by decide +kernel
theorem dX8_readsDoor_64 : decode cX8_readsDoor 64 = .ok (.iaload, 1) := by decide +kernel
theorem dX8_readsDoor_65 : decode cX8_readsDoor 65 = .ok (.iconst 1, 1) := by decide +kernel
theorem dX8_readsDoor_66 : decode cX8_readsDoor 66 = .ok (.iadd, 1) := by decide +kernel
theorem dX8_readsDoor_67 : decode cX8_readsDoor 67 = .ok (.iastore, 1) := by decide +kernel
theorem dX8_readsDoor_68 : decode cX8_readsDoor 68 = .ok (.iconst 1, 1) := by decide +kernel
theorem dX8_readsDoor_69 : decode cX8_readsDoor 69 = .ok (.ireturn, 1) := by decide +kernel
theorem dX8_readsHole_0 : decode cX8_readsHole 0 = .ok (.bipush 32, 2) := by decide +kernel
theorem dX8_readsHole_2 : decode cX8_readsHole 2 = .ok (.iconst 2, 1) := by decide +kernel
theorem dX8_readsHole_3 : decode cX8_readsHole 3 = .ok (.aload_n 0, 1) := by decide +kernel
theorem dX8_readsHole_4 : decode cX8_readsHole 4 = .ok (.getfield 13, 3) := by decide +kernel
theorem dX8_readsHole_7 : decode cX8_readsHole 7 = .ok (.bipush 31, 2) := by decide +kernel
theorem dX8_readsHole_9 : decode cX8_readsHole 9 = .ok (.iaload, 1) := by decide +kernel
theorem dX8_readsHole_10 : decode cX8_readsHole 10 = .ok (.imul, 1) := by decide +kernel
theorem dX8_readsHole_11 : decode cX8_readsHole 11 = .ok (.iadd, 1) := by decide +kernel
theorem dX8_readsHole_12 : decode cX8_readsHole 12 = .ok (.istore_n 1, 1) := by decide +kernel
theorem dX8_readsHole_13 : decode cX8_readsHole 13 = .ok (.aload_n 0, 1) := by decide +kernel
theorem dX8_readsHole_14 : decode cX8_readsHole 14 = .ok (.getfield 13, 3) := by decide +kernel
theorem dX8_readsHole_17 : decode cX8_readsHole 17 = .ok (.bipush 31, 2) := by decide +kernel
theorem dX8_readsHole_19 : decode cX8_readsHole 19 = .ok (.iaload, 1) := by decide +kernel
theorem dX8_readsHole_20 : decode cX8_readsHole 20 = .ok (.bipush 16, 2) := by decide +kernel
theorem dX8_readsHole_22 : decode cX8_readsHole 22 = .ok (.if_icmp .eq 27, 3) := by decide +kernel
theorem dX8_readsHole_25 : decode cX8_readsHole 25 = .ok (.aload_n 0, 1) := by decide +kernel
theorem dX8_readsHole_26 : decode cX8_readsHole 26 = .ok (.iload_n 1, 1) := by decide +kernel
theorem dX8_readsHole_27 : decode cX8_readsHole 27 = .ok (.iconst 0, 1) := by decide +kernel
theorem dX8_readsHole_28 : decode cX8_readsHole 28 = .ok (.bipush 80, 2) := by decide +kernel
theorem dX8_readsHole_30 : decode cX8_readsHole 30 = .ok (.invokevirtual 82, 3) := by decide +kernel
theorem dX8_readsHole_33 : decode cX8_readsHole 33 = .ok (.ifCond .eq 16, 3) := by decide +kernel
theorem dX8_readsHole_36 : decode cX8_readsHole 36 = .ok (.aload_n 0, 1) := by decide +kernel
theorem dX8_readsHole_37 : decode cX8_readsHole 37 = .ok (.iload_n 1, 1) := by decide +kernel
theorem dX8_readsHole_38 : decode cX8_readsHole 38 = .ok (.iconst 1, 1) := by decide +kernel
theorem dX8_readsHole_39 : decode cX8_readsHole 39 = .ok (.iadd, 1) := by decide +kernel
theorem dX8_readsHole_40 : decode cX8_readsHole 40 = .ok (.iconst 0, 1) := by decide +kernel
theorem dX8_readsHole_41 : decode cX8_readsHole 41 = .ok (.bipush 60, 2) := by decide +kernel
theorem dX8_readsHole_43 : decode cX8_readsHole 43 = .ok (.invokevirtual 82, 3) := by decide +kernel
theorem dX8_readsHole_46 : decode cX8_readsHole 46 = .ok (.ifCond .ne 5, 3) := by decide +kernel
theorem dX8_readsHole_49 : decode cX8_readsHole 49 = .ok (.iconst 0, 1) := by decide +kernel
theorem dX8_readsHole_50 : decode cX8_readsHole 50 = .ok (.ireturn, 1) := by decide +kernel
theorem dX8_readsHole_51 : decode cX8_readsHole 51 = .ok (.bipush 32, 2) := by decide +kernel
theorem dX8_readsHole_53 : decode cX8_readsHole 53 = .ok (.istore_n 2, 1) := by decide +kernel
theorem dX8_readsHole_54 : decode cX8_readsHole 54 = .ok (.iload_n 2, 1) := by decide +kernel
theorem dX8_readsHole_55 : decode cX8_readsHole 55 = .ok (.iload_n 1, 1) := by decide +kernel
theorem dX8_readsHole_56 : decode cX8_readsHole 56 = .ok (.if_icmp .ge 45, 3) := by decide +kernel
theorem dX8_readsHole_59 : decode cX8_readsHole 59 = .ok (.aload_n 0, 1) := by decide +kernel
theorem dX8_readsHole_60 : decode cX8_readsHole 60 = .ok (.getfield 13, 3) := by decide +kernel
theorem dX8_readsHole_63 : decode cX8_readsHole 63 = .ok (.iload_n 2, 1) := by decide +kernel
theorem dX8_readsHole_64 : decode cX8_readsHole 64 = .ok (.iaload, 1) := by decide +kernel
theorem dX8_readsHole_65 : decode cX8_readsHole 65 = .ok (.aload_n 0, 1) := by decide +kernel
theorem dX8_readsHole_66 : decode cX8_readsHole 66 = .ok (.getfield 13, 3) := by decide +kernel
theorem dX8_readsHole_69 : decode cX8_readsHole 69 = .ok (.iload_n 1, 1) := by decide +kernel
theorem dX8_readsHole_70 : decode cX8_readsHole 70 = .ok (.iaload, 1) := by decide +kernel
theorem dX8_readsHole_71 : decode cX8_readsHole 71 = .ok (.if_icmp .ne 24, 3) := by decide +kernel
theorem dX8_readsHole_74 : decode cX8_readsHole 74 = .ok (.aload_n 0, 1) := by decide +kernel
theorem dX8_readsHole_75 : decode cX8_readsHole 75 = .ok (.getfield 13, 3) := by decide +kernel
theorem dX8_readsHole_78 : decode cX8_readsHole 78 = .ok (.iload_n 2, 1) := by decide +kernel
theorem dX8_readsHole_79 : decode cX8_readsHole 79 = .ok (.iconst 1, 1) := by decide +kernel
theorem dX8_readsHole_80 : decode cX8_readsHole 80 = .ok (.iadd, 1) := by decide +kernel
theorem dX8_readsHole_81 : decode cX8_readsHole 81 = .ok (.iaload, 1) := by decide +kernel
theorem dX8_readsHole_82 : decode cX8_readsHole 82 = .ok (.aload_n 0, 1) := by decide +kernel
theorem dX8_readsHole_83 : decode cX8_readsHole 83 = .ok (.getfield 13, 3) := by decide +kernel
theorem dX8_readsHole_86 : decode cX8_readsHole 86 = .ok (.iload_n 1, 1) := by decide +kernel
theorem dX8_readsHole_87 : decode cX8_readsHole 87 = .ok (.iconst 1, 1) := by decide +kernel
theorem dX8_readsHole_88 : decode cX8_readsHole 88 = .ok (.iadd, 1) := by decide +kernel
theorem dX8_readsHole_89 : decode cX8_readsHole 89 = .ok (.iaload, 1) := by decide +kernel
theorem dX8_readsHole_90 : decode cX8_readsHole 90 = .ok (.if_icmp .ne 5, 3) := by decide +kernel
theorem dX8_readsHole_93 : decode cX8_readsHole 93 = .ok (.iconst 0, 1) := by decide +kernel
theorem dX8_readsHole_94 : decode cX8_readsHole 94 = .ok (.ireturn, 1) := by decide +kernel
theorem dX8_readsHole_95 : decode cX8_readsHole 95 = .ok (.iinc 2 2, 3) := by decide +kernel
theorem dX8_readsHole_98 : decode cX8_readsHole 98 = .ok (.goto (-44), 3) := by decide +kernel
theorem dX8_readsHole_101 : decode cX8_readsHole 101 = .ok (.aload_n 0, 1) := by decide +kernel
theorem dX8_readsHole_102 : decode cX8_readsHole 102 = .ok (.getfield 13, 3) := by decide +kernel
theorem dX8_readsHole_105 : decode cX8_readsHole 105 = .ok (.bipush 31, 2) := by decide +kernel
theorem dX8_readsHole_107 : decode cX8_readsHole 107 = .ok (.dup2, 1) := by decide +kernel
theorem dX8_readsHole_108 : decode cX8_readsHole 108 = .ok (.iaload, 1) := by decide +kernel
theorem dX8_readsHole_109 : decode cX8_readsHole 109 = .ok (.iconst 1, 1) := by decide +kernel
theorem dX8_readsHole_110 : decode cX8_readsHole 110 = .ok (.iadd, 1) := by decide +kernel
theorem dX8_readsHole_111 : decode cX8_readsHole 111 = .ok (.iastore, 1) := by decide +kernel
theorem dX8_readsHole_112 : decode cX8_readsHole 112 = .ok (.iconst 1, 1) := by decide +kernel
theorem dX8_readsHole_113 : decode cX8_readsHole 113 = .ok (.ireturn, 1) := by decide +kernel
theorem dX8_readsItem_0 : decode cX8_readsItem 0 = .ok (.aload_n 0, 1) := by decide +kernel
theorem dX8_readsItem_1 : decode cX8_readsItem 1 = .ok (.invokevirtual 71, 3) := by decide +kernel
theorem dX8_readsItem_4 : decode cX8_readsItem 4 = .ok (.aload_n 0, 1) := by decide +kernel
theorem dX8_readsItem_5 : decode cX8_readsItem 5 = .ok (.bipush 97, 2) := by decide +kernel
theorem dX8_readsItem_7 : decode cX8_readsItem 7 = .ok (.bipush 122, 2) := by decide +kernel
theorem dX8_readsItem_9 : decode cX8_readsItem 9 = .ok (.invokevirtual 74, 3) := by decide +kernel
theorem dX8_readsItem_12 : decode cX8_readsItem 12 = .ok (.ifCond .eq 16, 3) := by decide +kernel
theorem dX8_readsItem_15 : decode cX8_readsItem 15 = .ok (.aload_n 0, 1) := by decide +kernel
theorem dX8_readsItem_16 : decode cX8_readsItem 16 = .ok (.dup, 1) := by decide +kernel
theorem dX8_readsItem_17 : decode cX8_readsItem 17 = .ok (.getfield 57, 3) := by decide +kernel
theorem dX8_readsItem_20 : decode cX8_readsItem 20 = .ok (.iconst 1, 1) := by decide +kernel
theorem dX8_readsItem_21 : decode cX8_readsItem 21 = .ok (.iadd, 1) := by decide +kernel
theorem dX8_readsItem_22 : decode cX8_readsItem 22 = .ok (.putfield 57, 3) := by decide +kernel
theorem dX8_readsItem_25 : decode cX8_readsItem 25 = .ok (.goto (-21), 3) := by decide +kernel
theorem dX8_readsItem_28 : decode cX8_readsItem 28 = .ok (.aload_n 0, 1) := by decide +kernel
theorem dX8_readsItem_29 : decode cX8_readsItem 29 = .ok (.bipush 119, 2) := by decide +kernel
theorem dX8_readsItem_31 : decode cX8_readsItem 31 = .ok (.bipush 97, 2) := by decide +kernel
theorem dX8_readsItem_33 : decode cX8_readsItem 33 = .ok (.bipush 108, 2) := by decide +kernel
theorem dX8_readsItem_35 : decode cX8_readsItem 35 = .ok (.bipush 108, 2) := by decide +kernel
theorem dX8_readsItem_37 : decode cX8_readsItem 37 = .ok (.invokevirtual 85, 3) := by decide +kernel
theorem dX8_readsItem_40 : decode cX8_readsItem 40 = .ok (.ifCond .eq 8, 3) := by decide +kernel
theorem dX8_readsItem_43 : decode cX8_readsItem 43 = .ok (.aload_n 0, 1) := by decide +kernel
theorem dX8_readsItem_44 : decode cX8_readsItem 44 = .ok (.invokevirtual 89, 3) := by decide +kernel
theorem dX8_readsItem_47 : decode cX8_readsItem 47 = .ok (.ireturn, 1) := by decide +kernel
theorem dX8_readsItem_48 : decode cX8_readsItem 48 = .ok (.aload_n 0, 1) := by decide +kernel
theorem dX8_readsItem_49 : decode cX8_readsItem 49 = .ok (.bipush 112, 2) := by decide +kernel
theorem dX8_readsItem_51 : decode cX8_readsItem 51 = .ok (.bipush 105, 2) := by decide +kernel
theorem dX8_readsItem_53 : decode cX8_readsItem 53 = .ok (.bipush 99, 2) := by decide +kernel
theorem dX8_readsItem_55 : decode cX8_readsItem 55 = .ok (.iconst 0, 1) := by decide +kernel
theorem dX8_readsItem_56 : decode cX8_readsItem 56 = .ok (.invokevirtual 85, 3) := by decide +kernel
theorem dX8_readsItem_59 : decode cX8_readsItem 59 = .ok (.ifCond .eq 8, 3) := by decide +kernel
theorem dX8_readsItem_62 : decode cX8_readsItem 62 = .ok (.aload_n 0, 1) := by decide +kernel
theorem dX8_readsItem_63 : decode cX8_readsItem 63 = .ok (.invokevirtual 93, 3) := by decide +kernel
theorem dX8_readsItem_66 : decode cX8_readsItem 66 = .ok (.ireturn, 1) := by decide +kernel
theorem dX8_readsItem_67 : decode cX8_readsItem 67 = .ok (.aload_n 0, 1) := by decide +kernel
theorem dX8_readsItem_68 : decode cX8_readsItem 68 = .ok (.bipush 100, 2) := by decide +kernel
theorem dX8_readsItem_70 : decode cX8_readsItem 70 = .ok (.bipush 111, 2) := by decide +kernel
theorem dX8_readsItem_72 : decode cX8_readsItem 72 = .ok (.bipush 111, 2) := by decide +kernel
theorem dX8_readsItem_74 : decode cX8_readsItem 74 = .ok (.bipush 114, 2) := by decide +kernel
theorem dX8_readsItem_76 : decode cX8_readsItem 76 = .ok (.invokevirtual 85, 3) := by decide +kernel
theorem dX8_readsItem_79 : decode cX8_readsItem 79 = .ok (.ifCond .eq 8, 3) := by decide +kernel
theorem dX8_readsItem_82 : decode cX8_readsItem 82 = .ok (.aload_n 0, 1) := by decide +kernel
theorem dX8_readsItem_83 : decode cX8_readsItem 83 = .ok (.invokevirtual 96, 3) := by decide +kernel
theorem dX8_readsItem_86 : decode cX8_readsItem 86 = .ok (.ireturn, 1) := by decide +kernel
theorem dX8_readsItem_87 : decode cX8_readsItem 87 = .ok (.aload_n 0, 1) := by decide +kernel
theorem dX8_readsItem_88 : decode cX8_readsItem 88 = .ok (.bipush 104, 2) := by decide +kernel
theorem dX8_readsItem_90 : decode cX8_readsItem 90 = .ok (.bipush 111, 2) := by decide +kernel
theorem dX8_readsItem_92 : decode cX8_readsItem 92 = .ok (.bipush 108, 2) := by decide +kernel
theorem dX8_readsItem_94 : decode cX8_readsItem 94 = .ok (.bipush 101, 2) := by decide +kernel
theorem dX8_readsItem_96 : decode cX8_readsItem 96 = .ok (.invokevirtual 85, 3) := by decide +kernel
theorem dX8_readsItem_99 : decode cX8_readsItem 99 = .ok (.ifCond .eq 14, 3) := by decide +kernel
theorem dX8_readsItem_102 : decode cX8_readsItem 102 = .ok (.aload_n 0, 1) := by decide +kernel
theorem dX8_readsItem_103 : decode cX8_readsItem 103 = .ok (.invokevirtual 99, 3) := by decide +kernel
theorem dX8_readsItem_106 : decode cX8_readsItem 106 = .ok (.ifCond .eq 7, 3) := by decide +kernel
theorem dX8_readsItem_109 : decode cX8_readsItem 109 = .ok (.iconst 1, 1) := by decide +kernel
theorem dX8_readsItem_110 : decode cX8_readsItem 110 = .ok (.goto 4, 3) := by decide +kernel
theorem dX8_readsItem_113 : decode cX8_readsItem 113 = .ok (.iconst 0, 1) := by decide +kernel
theorem dX8_readsItem_114 : decode cX8_readsItem 114 = .ok (.ireturn, 1) := by decide +kernel
theorem dX8_reads_0 : decode cX8_reads 0 = .ok (.aload_n 0, 1) := by decide +kernel
theorem dX8_reads_1 : decode cX8_reads 1 = .ok (.getfield 13, 3) := by decide +kernel
theorem dX8_reads_4 : decode cX8_reads 4 = .ok (.invokestatic 53, 3) := by decide +kernel
theorem dX8_reads_7 : decode cX8_reads 7 = .ok (.aload_n 0, 1) := by decide +kernel
theorem dX8_reads_8 : decode cX8_reads 8 = .ok (.iconst 0, 1) := by decide +kernel
theorem dX8_reads_9 : decode cX8_reads 9 = .ok (.putfield 78, 3) := by decide +kernel
theorem dX8_reads_12 : decode cX8_reads 12 = .ok (.aload_n 0, 1) := by decide +kernel
theorem dX8_reads_13 : decode cX8_reads 13 = .ok (.iconst 0, 1) := by decide +kernel
theorem dX8_reads_14 : decode cX8_reads 14 = .ok (.putfield 57, 3) := by decide +kernel
theorem dX8_reads_17 : decode cX8_reads 17 = .ok (.iconst 0, 1) := by decide +kernel
theorem dX8_reads_18 : decode cX8_reads 18 = .ok (.istore_n 1, 1) := by decide +kernel
theorem dX8_reads_19 : decode cX8_reads 19 = .ok (.aload_n 0, 1) := by decide +kernel
theorem dX8_reads_20 : decode cX8_reads 20 = .ok (.invokevirtual 71, 3) := by decide +kernel
theorem dX8_reads_23 : decode cX8_reads 23 = .ok (.aload_n 0, 1) := by decide +kernel
theorem dX8_reads_24 : decode cX8_reads 24 = .ok (.getfield 57, 3) := by decide +kernel
theorem dX8_reads_27 : decode cX8_reads 27 = .ok (.aload_n 0, 1) := by decide +kernel
theorem dX8_reads_28 : decode cX8_reads 28 = .ok (.getfield 61, 3) := by decide +kernel
theorem dX8_reads_31 : decode cX8_reads 31 = .ok (.if_icmp .ge 29, 3) := by decide +kernel
theorem dX8_reads_34 : decode cX8_reads 34 = .ok (.aload_n 0, 1) := by decide +kernel
theorem dX8_reads_35 : decode cX8_reads 35 = .ok (.invokevirtual 102, 3) := by decide +kernel
theorem dX8_reads_38 : decode cX8_reads 38 = .ok (.ifCond .eq 10, 3) := by decide +kernel
theorem dX8_reads_41 : decode cX8_reads 41 = .ok (.aload_n 0, 1) := by decide +kernel
theorem dX8_reads_42 : decode cX8_reads 42 = .ok (.invokevirtual 105, 3) := by decide +kernel
theorem dX8_reads_45 : decode cX8_reads 45 = .ok (.ifCond .ne 5, 3) := by decide +kernel
theorem dX8_reads_48 : decode cX8_reads 48 = .ok (.iconst (-1), 1) := by decide +kernel
theorem dX8_reads_49 : decode cX8_reads 49 = .ok (.ireturn, 1) := by decide +kernel
theorem dX8_reads_50 : decode cX8_reads 50 = .ok (.iinc 1 1, 3) := by decide +kernel
theorem dX8_reads_53 : decode cX8_reads 53 = .ok (.aload_n 0, 1) := by decide +kernel
theorem dX8_reads_54 : decode cX8_reads 54 = .ok (.invokevirtual 71, 3) := by decide +kernel
theorem dX8_reads_57 : decode cX8_reads 57 = .ok (.goto (-34), 3) := by decide +kernel
theorem dX8_reads_60 : decode cX8_reads 60 = .ok (.iload_n 1, 1) := by decide +kernel
theorem dX8_reads_61 : decode cX8_reads 61 = .ok (.ireturn, 1) := by decide +kernel
theorem dX8_type_0 : decode cX8_type 0 = .ok (.iload_n 1, 1) := by decide +kernel
theorem dX8_type_1 : decode cX8_type 1 = .ok (.iconst 0, 1) := by decide +kernel
theorem dX8_type_2 : decode cX8_type 2 = .ok (.sipush 255, 3) := by decide +kernel
theorem dX8_type_5 : decode cX8_type 5 = .ok (.invokestatic 67, 3) := by decide +kernel
theorem dX8_type_8 : decode cX8_type 8 = .ok (.ifCond .ne 5, 3) := by decide +kernel
theorem dX8_type_11 : decode cX8_type 11 = .ok (.iconst (-1), 1) := by decide +kernel
theorem dX8_type_12 : decode cX8_type 12 = .ok (.ireturn, 1) := by decide +kernel
theorem dX8_type_13 : decode cX8_type 13 = .ok (.aload_n 0, 1) := by decide +kernel
theorem dX8_type_14 : decode cX8_type 14 = .ok (.getfield 61, 3) := by decide +kernel
theorem dX8_type_17 : decode cX8_type 17 = .ok (.bipush 120, 2) := by decide +kernel
theorem dX8_type_19 : decode cX8_type 19 = .ok (.if_icmp .ne 6, 3) := by decide +kernel
theorem dX8_type_22 : decode cX8_type 22 = .ok (.bipush (-3), 2) := by decide +kernel
theorem dX8_type_24 : decode cX8_type 24 = .ok (.ireturn, 1) := by decide +kernel
theorem dX8_type_25 : decode cX8_type 25 = .ok (.aload_n 0, 1) := by decide +kernel
theorem dX8_type_26 : decode cX8_type 26 = .ok (.getfield 32, 3) := by decide +kernel
theorem dX8_type_29 : decode cX8_type 29 = .ok (.aload_n 0, 1) := by decide +kernel
theorem dX8_type_30 : decode cX8_type 30 = .ok (.getfield 61, 3) := by decide +kernel
theorem dX8_type_33 : decode cX8_type 33 = .ok (.iload_n 1, 1) := by decide +kernel
theorem dX8_type_34 : decode cX8_type 34 = .ok (.iastore, 1) := by decide +kernel
theorem dX8_type_35 : decode cX8_type 35 = .ok (.aload_n 0, 1) := by decide +kernel
theorem dX8_type_36 : decode cX8_type 36 = .ok (.dup, 1) := by decide +kernel
theorem dX8_type_37 : decode cX8_type 37 = .ok (.getfield 61, 3) := by decide +kernel
theorem dX8_type_40 : decode cX8_type 40 = .ok (.iconst 1, 1) := by decide +kernel
theorem dX8_type_41 : decode cX8_type 41 = .ok (.iadd, 1) := by decide +kernel
theorem dX8_type_42 : decode cX8_type 42 = .ok (.putfield 61, 3) := by decide +kernel
theorem dX8_type_45 : decode cX8_type 45 = .ok (.aload_n 0, 1) := by decide +kernel
theorem dX8_type_46 : decode cX8_type 46 = .ok (.getfield 61, 3) := by decide +kernel
theorem dX8_type_49 : decode cX8_type 49 = .ok (.ireturn, 1) := by decide +kernel
theorem dX8_clear_0 : decode cX8_clear 0 = .ok (.aload_n 0, 1) := by decide +kernel
theorem dX8_clear_1 : decode cX8_clear 1 = .ok (.getfield 61, 3) := by decide +kernel
theorem dX8_clear_4 : decode cX8_clear 4 = .ok (.istore_n 1, 1) := by decide +kernel
theorem dX8_clear_5 : decode cX8_clear 5 = .ok (.aload_n 0, 1) := by decide +kernel
theorem dX8_clear_6 : decode cX8_clear 6 = .ok (.iconst 0, 1) := by decide +kernel
theorem dX8_clear_7 : decode cX8_clear 7 = .ok (.putfield 61, 3) := by decide +kernel
theorem dX8_clear_10 : decode cX8_clear 10 = .ok (.iload_n 1, 1) := by decide +kernel
theorem dX8_clear_11 : decode cX8_clear 11 = .ok (.ireturn, 1) := by decide +kernel
theorem dX8_keeps_0 : decode cX8_keeps 0 = .ok (.aload_n 0, 1) := by decide +kernel
theorem dX8_keeps_1 : decode cX8_keeps 1 = .ok (.getfield 108, 3) := by decide +kernel
theorem dX8_keeps_4 : decode cX8_keeps 4 = .ok (.bipush 6, 2) := by decide +kernel
theorem dX8_keeps_6 : decode cX8_keeps 6 = .ok (.if_icmp .ne 43, 3) := by decide +kernel
theorem dX8_keeps_9 : decode cX8_keeps 9 = .ok (.iconst 0, 1) := by decide +kernel
theorem dX8_keeps_10 : decode cX8_keeps 10 = .ok (.istore_n 1, 1) := by decide +kernel
theorem dX8_keeps_11 : decode cX8_keeps 11 = .ok (.iload_n 1, 1) := by decide +kernel
theorem dX8_keeps_12 : decode cX8_keeps 12 = .ok (.sipush 345, 3) := by decide +kernel
theorem dX8_keeps_15 : decode cX8_keeps 15 = .ok (.if_icmp .ge 24, 3) := by decide +kernel
theorem dX8_keeps_18 : decode cX8_keeps 18 = .ok (.aload_n 0, 1) := by decide +kernel
theorem dX8_keeps_19 : decode cX8_keeps 19 = .ok (.getfield 16, 3) := by decide +kernel
theorem dX8_keeps_22 : decode cX8_keeps 22 = .ok (.iload_n 1, 1) := by decide +kernel
theorem dX8_keeps_23 : decode cX8_keeps 23 = .ok (.aload_n 0, 1) := by decide +kernel
theorem dX8_keeps_24 : decode cX8_keeps 24 = .ok (.getfield 16, 3) := by decide +kernel
theorem dX8_keeps_27 : decode cX8_keeps 27 = .ok (.iload_n 1, 1) := by decide +kernel
theorem dX8_keeps_28 : decode cX8_keeps 28 = .ok (.bipush 69, 2) := by decide +kernel
theorem dX8_keeps_30 : decode cX8_keeps 30 = .ok (.iadd, 1) := by decide +kernel
theorem dX8_keeps_31 : decode cX8_keeps 31 = .ok (.iaload, 1) := by decide +kernel
theorem dX8_keeps_32 : decode cX8_keeps 32 = .ok (.iastore, 1) := by decide +kernel
theorem dX8_keeps_33 : decode cX8_keeps 33 = .ok (.iinc 1 1, 3) := by decide +kernel
theorem dX8_keeps_36 : decode cX8_keeps 36 = .ok (.goto (-25), 3) := by decide +kernel
theorem dX8_keeps_39 : decode cX8_keeps 39 = .ok (.aload_n 0, 1) := by decide +kernel
theorem dX8_keeps_40 : decode cX8_keeps 40 = .ok (.dup, 1) := by decide +kernel
theorem dX8_keeps_41 : decode cX8_keeps 41 = .ok (.getfield 108, 3) := by decide +kernel
theorem dX8_keeps_44 : decode cX8_keeps 44 = .ok (.iconst 1, 1) := by decide +kernel
theorem dX8_keeps_45 : decode cX8_keeps 45 = .ok (.isub, 1) := by decide +kernel
theorem dX8_keeps_46 : decode cX8_keeps 46 = .ok (.putfield 108, 3) := by decide +kernel
theorem dX8_keeps_49 : decode cX8_keeps 49 = .ok (.iconst 0, 1) := by decide +kernel
theorem dX8_keeps_50 : decode cX8_keeps 50 = .ok (.istore_n 1, 1) := by decide +kernel
theorem dX8_keeps_51 : decode cX8_keeps 51 = .ok (.iload_n 1, 1) := by decide +kernel
theorem dX8_keeps_52 : decode cX8_keeps 52 = .ok (.bipush 69, 2) := by decide +kernel
theorem dX8_keeps_54 : decode cX8_keeps 54 = .ok (.if_icmp .ge 29, 3) := by decide +kernel
theorem dX8_keeps_57 : decode cX8_keeps 57 = .ok (.aload_n 0, 1) := by decide +kernel
theorem dX8_keeps_58 : decode cX8_keeps 58 = .ok (.getfield 16, 3) := by decide +kernel
theorem dX8_keeps_61 : decode cX8_keeps 61 = .ok (.bipush 69, 2) := by decide +kernel
theorem dX8_keeps_63 : decode cX8_keeps 63 = .ok (.aload_n 0, 1) := by decide +kernel
theorem dX8_keeps_64 : decode cX8_keeps 64 = .ok (.getfield 108, 3) := by decide +kernel
theorem dX8_keeps_67 : decode cX8_keeps 67 = .ok (.imul, 1) := by decide +kernel
theorem dX8_keeps_68 : decode cX8_keeps 68 = .ok (.iload_n 1, 1) := by decide +kernel
theorem dX8_keeps_69 : decode cX8_keeps 69 = .ok (.iadd, 1) := by decide +kernel
theorem dX8_keeps_70 : decode cX8_keeps 70 = .ok (.aload_n 0, 1) := by decide +kernel
theorem dX8_keeps_71 : decode cX8_keeps 71 = .ok (.getfield 7, 3) := by decide +kernel
theorem dX8_keeps_74 : decode cX8_keeps 74 = .ok (.iload_n 1, 1) := by decide +kernel
theorem dX8_keeps_75 : decode cX8_keeps 75 = .ok (.iaload, 1) := by decide +kernel
theorem dX8_keeps_76 : decode cX8_keeps 76 = .ok (.iastore, 1) := by decide +kernel
theorem dX8_keeps_77 : decode cX8_keeps 77 = .ok (.iinc 1 1, 3) := by decide +kernel
theorem dX8_keeps_80 : decode cX8_keeps 80 = .ok (.goto (-29), 3) := by decide +kernel
theorem dX8_keeps_83 : decode cX8_keeps 83 = .ok (.aload_n 0, 1) := by decide +kernel
theorem dX8_keeps_84 : decode cX8_keeps 84 = .ok (.dup, 1) := by decide +kernel
theorem dX8_keeps_85 : decode cX8_keeps 85 = .ok (.getfield 108, 3) := by decide +kernel
theorem dX8_keeps_88 : decode cX8_keeps 88 = .ok (.iconst 1, 1) := by decide +kernel
theorem dX8_keeps_89 : decode cX8_keeps 89 = .ok (.iadd, 1) := by decide +kernel
theorem dX8_keeps_90 : decode cX8_keeps 90 = .ok (.putfield 108, 3) := by decide +kernel
theorem dX8_keeps_93 : decode cX8_keeps 93 = .ok (.return_, 1) := by decide +kernel
theorem dX8_tells_0 : decode cX8_tells 0 = .ok (.aload_n 0, 1) := by decide +kernel
theorem dX8_tells_1 : decode cX8_tells 1 = .ok (.invokevirtual 111, 3) := by decide +kernel
theorem dX8_tells_4 : decode cX8_tells 4 = .ok (.istore_n 1, 1) := by decide +kernel
theorem dX8_tells_5 : decode cX8_tells 5 = .ok (.iload_n 1, 1) := by decide +kernel
theorem dX8_tells_6 : decode cX8_tells 6 = .ok (.ifCond .ge 11, 3) := by decide +kernel
theorem dX8_tells_9 : decode cX8_tells 9 = .ok (.bipush (-10), 2) := by decide +kernel
theorem dX8_tells_11 : decode cX8_tells 11 = .ok (.aload_n 0, 1) := by decide +kernel
theorem dX8_tells_12 : decode cX8_tells 12 = .ok (.getfield 64, 3) := by decide +kernel
theorem dX8_tells_15 : decode cX8_tells 15 = .ok (.isub, 1) := by decide +kernel
theorem dX8_tells_16 : decode cX8_tells 16 = .ok (.ireturn, 1) := by decide +kernel
theorem dX8_tells_17 : decode cX8_tells 17 = .ok (.aload_n 0, 1) := by decide +kernel
theorem dX8_tells_18 : decode cX8_tells 18 = .ok (.invokevirtual 115, 3) := by decide +kernel
theorem dX8_tells_21 : decode cX8_tells 21 = .ok (.iconst 0, 1) := by decide +kernel
theorem dX8_tells_22 : decode cX8_tells 22 = .ok (.istore_n 2, 1) := by decide +kernel
theorem dX8_tells_23 : decode cX8_tells 23 = .ok (.iload_n 2, 1) := by decide +kernel
theorem dX8_tells_24 : decode cX8_tells 24 = .ok (.bipush 69, 2) := by decide +kernel
theorem dX8_tells_26 : decode cX8_tells 26 = .ok (.if_icmp .ge 21, 3) := by decide +kernel
theorem dX8_tells_29 : decode cX8_tells 29 = .ok (.aload_n 0, 1) := by decide +kernel
theorem dX8_tells_30 : decode cX8_tells 30 = .ok (.getfield 7, 3) := by decide +kernel
theorem dX8_tells_33 : decode cX8_tells 33 = .ok (.iload_n 2, 1) := by decide +kernel
theorem dX8_tells_34 : decode cX8_tells 34 = .ok (.aload_n 0, 1) := by decide +kernel
theorem dX8_tells_35 : decode cX8_tells 35 = .ok (.getfield 13, 3) := by decide +kernel
theorem dX8_tells_38 : decode cX8_tells 38 = .ok (.iload_n 2, 1) := by decide +kernel
theorem dX8_tells_39 : decode cX8_tells 39 = .ok (.iaload, 1) := by decide +kernel
theorem dX8_tells_40 : decode cX8_tells 40 = .ok (.iastore, 1) := by decide +kernel
theorem dX8_tells_41 : decode cX8_tells 41 = .ok (.iinc 2 1, 3) := by decide +kernel
theorem dX8_tells_44 : decode cX8_tells 44 = .ok (.goto (-21), 3) := by decide +kernel
theorem dX8_tells_47 : decode cX8_tells 47 = .ok (.aload_n 0, 1) := by decide +kernel
theorem dX8_tells_48 : decode cX8_tells 48 = .ok (.iconst 0, 1) := by decide +kernel
theorem dX8_tells_49 : decode cX8_tells 49 = .ok (.putfield 61, 3) := by decide +kernel
theorem dX8_tells_52 : decode cX8_tells 52 = .ok (.iload_n 1, 1) := by decide +kernel
theorem dX8_tells_53 : decode cX8_tells 53 = .ok (.ireturn, 1) := by decide +kernel
theorem dX8_isPicture_0 : decode cX8_isPicture 0 = .ok (.iload_n 1, 1) := by decide +kernel
theorem dX8_isPicture_1 : decode cX8_isPicture 1 = .ok (.iconst 0, 1) := by decide +kernel
theorem dX8_isPicture_2 : decode cX8_isPicture 2 = .ok (.aload_n 0, 1) := by decide +kernel
theorem dX8_isPicture_3 : decode cX8_isPicture 3 = .ok (.getfield 7, 3) := by decide +kernel
theorem dX8_isPicture_6 : decode cX8_isPicture 6 = .ok (.iconst 3, 1) := by decide +kernel
theorem dX8_isPicture_7 : decode cX8_isPicture 7 = .ok (.iaload, 1) := by decide +kernel
theorem dX8_isPicture_8 : decode cX8_isPicture 8 = .ok (.iconst 1, 1) := by decide +kernel
theorem dX8_isPicture_9 : decode cX8_isPicture 9 = .ok (.isub, 1) := by decide +kernel
theorem dX8_isPicture_10 : decode cX8_isPicture 10 = .ok (.invokestatic 67, 3) := by decide +kernel
theorem dX8_isPicture_13 : decode cX8_isPicture 13 = .ok (.ireturn, 1) := by decide +kernel
theorem dX8_ofPicture_0 : decode cX8_ofPicture 0 = .ok (.aload_n 0, 1) := by decide +kernel
theorem dX8_ofPicture_1 : decode cX8_ofPicture 1 = .ok (.getfield 7, 3) := by decide +kernel
theorem dX8_ofPicture_4 : decode cX8_ofPicture 4 = .ok (.iconst 4, 1) := by decide +kernel
theorem dX8_ofPicture_5 : decode cX8_ofPicture 5 = .ok (.iconst 4, 1) := by decide +kernel
theorem dX8_ofPicture_6 : decode cX8_ofPicture 6 = .ok (.iload_n 1, 1) := by decide +kernel
theorem dX8_ofPicture_7 : decode cX8_ofPicture 7 = .ok (.imul, 1) := by decide +kernel
theorem dX8_ofPicture_8 : decode cX8_ofPicture 8 = .ok (.iadd, 1) := by decide +kernel
theorem dX8_ofPicture_9 : decode cX8_ofPicture 9 = .ok (.iload_n 2, 1) := by decide +kernel
theorem dX8_ofPicture_10 : decode cX8_ofPicture 10 = .ok (.iadd, 1) := by decide +kernel
theorem dX8_ofPicture_11 : decode cX8_ofPicture 11 = .ok (.iaload, 1) := by decide +kernel
theorem dX8_ofPicture_12 : decode cX8_ofPicture 12 = .ok (.ireturn, 1) := by decide +kernel
theorem dX8_hookX_0 : decode cX8_hookX 0 = .ok (.iconst 2, 1) := by decide +kernel
theorem dX8_hookX_1 : decode cX8_hookX 1 = .ok (.iload_n 2, 1) := by decide +kernel
theorem dX8_hookX_2 : decode cX8_hookX 2 = .ok (.imul, 1) := by decide +kernel
theorem dX8_hookX_3 : decode cX8_hookX 3 = .ok (.aload_n 0, 1) := by decide +kernel
theorem dX8_hookX_4 : decode cX8_hookX 4 = .ok (.iload_n 1, 1) := by decide +kernel
theorem dX8_hookX_5 : decode cX8_hookX 5 = .ok (.iconst 0, 1) := by decide +kernel
theorem dX8_hookX_6 : decode cX8_hookX 6 = .ok (.invokevirtual 118, 3) := by decide +kernel
theorem dX8_hookX_9 : decode cX8_hookX 9 = .ok (.iadd, 1) := by decide +kernel
theorem dX8_hookX_10 : decode cX8_hookX 10 = .ok (.ireturn, 1) := by decide +kernel
theorem dX8_hookY_0 : decode cX8_hookY 0 = .ok (.iconst 2, 1) := by decide +kernel
theorem dX8_hookY_1 : decode cX8_hookY 1 = .ok (.aload_n 0, 1) := by decide +kernel
theorem dX8_hookY_2 : decode cX8_hookY 2 = .ok (.getfield 7, 3) := by decide +kernel
theorem dX8_hookY_5 : decode cX8_hookY 5 = .ok (.iconst 1, 1) := by decide +kernel
theorem dX8_hookY_6 : decode cX8_hookY 6 = .ok (.iaload, 1) := by decide +kernel
theorem dX8_hookY_7 : decode cX8_hookY 7 = .ok (.imul, 1) := by decide +kernel
theorem dX8_hookY_8 : decode cX8_hookY 8 = .ok (.aload_n 0, 1) := by decide +kernel
theorem dX8_hookY_9 : decode cX8_hookY 9 = .ok (.iload_n 1, 1) := by decide +kernel
theorem dX8_hookY_10 : decode cX8_hookY 10 = .ok (.iconst 1, 1) := by decide +kernel
theorem dX8_hookY_11 : decode cX8_hookY 11 = .ok (.invokevirtual 118, 3) := by decide +kernel
theorem dX8_hookY_14 : decode cX8_hookY 14 = .ok (.iadd, 1) := by decide +kernel
theorem dX8_hookY_15 : decode cX8_hookY 15 = .ok (.iconst 2, 1) := by decide +kernel
theorem dX8_hookY_16 : decode cX8_hookY 16 = .ok (.aload_n 0, 1) := by decide +kernel
theorem dX8_hookY_17 : decode cX8_hookY 17 = .ok (.iload_n 1, 1) := by decide +kernel
theorem dX8_hookY_18 : decode cX8_hookY 18 = .ok (.iconst 2, 1) := by decide +kernel
theorem dX8_hookY_19 : decode cX8_hookY 19 = .ok (.invokevirtual 118, 3) := by decide +kernel
theorem dX8_hookY_22 : decode cX8_hookY 22 = .ok (.imul, 1) := by decide +kernel
theorem dX8_hookY_23 : decode cX8_hookY 23 = .ok (.isub, 1) := by decide +kernel
theorem dX8_hookY_24 : decode cX8_hookY 24 = .ok (.ireturn, 1) := by decide +kernel
theorem dX8_doesFit_0 : decode cX8_doesFit 0 = .ok (.iload_n 2, 1) := by decide +kernel
theorem dX8_doesFit_1 : decode cX8_doesFit 1 = .ok (.aload_n 0, 1) := by decide +kernel
theorem dX8_doesFit_2 : decode cX8_doesFit 2 = .ok (.iload_n 1, 1) := by decide +kernel
theorem dX8_doesFit_3 : decode cX8_doesFit 3 = .ok (.iconst 0, 1) := by decide +kernel
theorem dX8_doesFit_4 : decode cX8_doesFit 4 = .ok (.invokevirtual 118, 3) := by decide +kernel
theorem dX8_doesFit_7 : decode cX8_doesFit 7 = .ok (.iadd, 1) := by decide +kernel
theorem dX8_doesFit_8 : decode cX8_doesFit 8 = .ok (.istore_n 3, 1) := by decide +kernel
theorem dX8_doesFit_9 : decode cX8_doesFit 9 = .ok (.iload_n 2, 1) := by decide +kernel
theorem dX8_doesFit_10 : decode cX8_doesFit 10 = .ok (.ifCond .lt 17, 3) := by decide +kernel
theorem dX8_doesFit_13 : decode cX8_doesFit 13 = .ok (.iload_n 3, 1) := by decide +kernel
theorem dX8_doesFit_14 : decode cX8_doesFit 14 = .ok (.aload_n 0, 1) := by decide +kernel
theorem dX8_doesFit_15 : decode cX8_doesFit 15 = .ok (.getfield 7, 3) := by decide +kernel
theorem dX8_doesFit_18 : decode cX8_doesFit 18 = .ok (.iconst 0, 1) := by decide +kernel
theorem dX8_doesFit_19 : decode cX8_doesFit 19 = .ok (.iaload, 1) := by decide +kernel
theorem dX8_doesFit_20 : decode cX8_doesFit 20 = .ok (.if_icmp .gt 7, 3) := by decide +kernel
theorem dX8_doesFit_23 : decode cX8_doesFit 23 = .ok (.iconst 1, 1) := by decide +kernel
theorem dX8_doesFit_24 : decode cX8_doesFit 24 = .ok (.goto 4, 3) := by decide +kernel
theorem dX8_doesFit_27 : decode cX8_doesFit 27 = .ok (.iconst 0, 1) := by decide +kernel
theorem dX8_doesFit_28 : decode cX8_doesFit 28 = .ok (.istore 4, 2) := by decide +kernel
theorem dX8_doesFit_30 : decode cX8_doesFit 30 = .ok (.iconst 0, 1) := by decide +kernel
theorem dX8_doesFit_31 : decode cX8_doesFit 31 = .ok (.istore 5, 2) := by decide +kernel
theorem dX8_doesFit_33 : decode cX8_doesFit 33 = .ok (.iload 5, 2) := by decide +kernel
theorem dX8_doesFit_35 : decode cX8_doesFit 35 = .ok (.aload_n 0, 1) := by decide +kernel
theorem dX8_doesFit_36 : decode cX8_doesFit 36 = .ok (.getfield 7, 3) := by decide +kernel
theorem dX8_doesFit_39 : decode cX8_doesFit 39 = .ok (.bipush 24, 2) := by decide +kernel
theorem dX8_doesFit_41 : decode cX8_doesFit 41 = .ok (.iaload, 1) := by decide +kernel
theorem dX8_doesFit_42 : decode cX8_doesFit 42 = .ok (.if_icmp .ge 55, 3) := by decide +kernel
theorem dX8_doesFit_45 : decode cX8_doesFit 45 = .ok (.iload 4, 2) := by decide +kernel
theorem dX8_doesFit_47 : decode cX8_doesFit 47 = .ok (.ifCond .eq 41, 3) := by decide +kernel
theorem dX8_doesFit_50 : decode cX8_doesFit 50 = .ok (.iload_n 3, 1) := by decide +kernel
theorem dX8_doesFit_51 : decode cX8_doesFit 51 = .ok (.aload_n 0, 1) := by decide +kernel
theorem dX8_doesFit_52 : decode cX8_doesFit 52 = .ok (.getfield 7, 3) := by decide +kernel
theorem dX8_doesFit_55 : decode cX8_doesFit 55 = .ok (.bipush 25, 2) := by decide +kernel
theorem dX8_doesFit_57 : decode cX8_doesFit 57 = .ok (.iconst 2, 1) := by decide +kernel
theorem dX8_doesFit_58 : decode cX8_doesFit 58 = .ok (.iload 5, 2) := by decide +kernel
theorem dX8_doesFit_60 : decode cX8_doesFit 60 = .ok (.imul, 1) := by decide +kernel
theorem dX8_doesFit_61 : decode cX8_doesFit 61 = .ok (.iadd, 1) := by decide +kernel
theorem dX8_doesFit_62 : decode cX8_doesFit 62 = .ok (.iaload, 1) := by decide +kernel
theorem dX8_doesFit_63 : decode cX8_doesFit 63 = .ok (.if_icmp .le 21, 3) := by decide +kernel
theorem dX8_doesFit_66 : decode cX8_doesFit 66 = .ok (.iload_n 2, 1) := by decide +kernel
theorem dX8_doesFit_67 : decode cX8_doesFit 67 = .ok (.aload_n 0, 1) := by decide +kernel
theorem dX8_doesFit_68 : decode cX8_doesFit 68 = .ok (.getfield 7, 3) := by decide +kernel
theorem dX8_doesFit_71 : decode cX8_doesFit 71 = .ok (.bipush 25, 2) := by decide +kernel
theorem dX8_doesFit_73 : decode cX8_doesFit 73 = .ok (.iconst 2, 1) := by decide +kernel
theorem dX8_doesFit_74 : decode cX8_doesFit 74 = .ok (.iload 5, 2) := by decide +kernel
theorem dX8_doesFit_76 : decode cX8_doesFit 76 = .ok (.imul, 1) := by decide +kernel
theorem dX8_doesFit_77 : decode cX8_doesFit 77 = .ok (.iadd, 1) := by decide +kernel
theorem dX8_doesFit_78 : decode cX8_doesFit 78 = .ok (.iconst 1, 1) := by decide +kernel
theorem dX8_doesFit_79 : decode cX8_doesFit 79 = .ok (.iadd, 1) := by decide +kernel
theorem dX8_doesFit_80 : decode cX8_doesFit 80 = .ok (.iaload, 1) := by decide +kernel
theorem dX8_doesFit_81 : decode cX8_doesFit 81 = .ok (.if_icmp .lt 7, 3) := by decide +kernel
theorem dX8_doesFit_84 : decode cX8_doesFit 84 = .ok (.iconst 1, 1) := by decide +kernel
theorem dX8_doesFit_85 : decode cX8_doesFit 85 = .ok (.goto 4, 3) := by decide +kernel
theorem dX8_doesFit_88 : decode cX8_doesFit 88 = .ok (.iconst 0, 1) := by decide +kernel
theorem dX8_doesFit_89 : decode cX8_doesFit 89 = .ok (.istore 4, 2) := by decide +kernel
theorem dX8_doesFit_91 : decode cX8_doesFit 91 = .ok (.iinc 5 1, 3) := by decide +kernel
theorem dX8_doesFit_94 : decode cX8_doesFit 94 = .ok (.goto (-61), 3) := by decide +kernel
theorem dX8_doesFit_97 : decode cX8_doesFit 97 = .ok (.iload 4, 2) := by decide +kernel
theorem dX8_doesFit_99 : decode cX8_doesFit 99 = .ok (.ireturn, 1) := by decide +kernel
theorem dX8_hangsNow_0 : decode cX8_hangsNow 0 = .ok (.aload_n 0, 1) := by decide +kernel
theorem dX8_hangsNow_1 : decode cX8_hangsNow 1 = .ok (.getfield 7, 3) := by decide +kernel
theorem dX8_hangsNow_4 : decode cX8_hangsNow 4 = .ok (.bipush 64, 2) := by decide +kernel
theorem dX8_hangsNow_6 : decode cX8_hangsNow 6 = .ok (.iload_n 1, 1) := by decide +kernel
theorem dX8_hangsNow_7 : decode cX8_hangsNow 7 = .ok (.iadd, 1) := by decide +kernel
theorem dX8_hangsNow_8 : decode cX8_hangsNow 8 = .ok (.iaload, 1) := by decide +kernel
theorem dX8_hangsNow_9 : decode cX8_hangsNow 9 = .ok (.bipush (-9), 2) := by decide +kernel
theorem dX8_hangsNow_11 : decode cX8_hangsNow 11 = .ok (.if_icmp .eq 7, 3) := by decide +kernel
theorem dX8_hangsNow_14 : decode cX8_hangsNow 14 = .ok (.iconst 1, 1) := by decide +kernel
theorem dX8_hangsNow_15 : decode cX8_hangsNow 15 = .ok (.goto 4, 3) := by decide +kernel
theorem dX8_hangsNow_18 : decode cX8_hangsNow 18 = .ok (.iconst 0, 1) := by decide +kernel
theorem dX8_hangsNow_19 : decode cX8_hangsNow 19 = .ok (.ireturn, 1) := by decide +kernel
theorem dX8_isApart_0 : decode cX8_isApart 0 = .ok (.iconst 1, 1) := by decide +kernel
theorem dX8_isApart_1 : decode cX8_isApart 1 = .ok (.istore_n 3, 1) := by decide +kernel
theorem dX8_isApart_2 : decode cX8_isApart 2 = .ok (.iconst 0, 1) := by decide +kernel
theorem dX8_isApart_3 : decode cX8_isApart 3 = .ok (.istore 4, 2) := by decide +kernel
theorem dX8_isApart_5 : decode cX8_isApart 5 = .ok (.iload 4, 2) := by decide +kernel
theorem dX8_isApart_7 : decode cX8_isApart 7 = .ok (.aload_n 0, 1) := by decide +kernel
theorem dX8_isApart_8 : decode cX8_isApart 8 = .ok (.getfield 7, 3) := by decide +kernel
theorem dX8_isApart_11 : decode cX8_isApart 11 = .ok (.iconst 3, 1) := by decide +kernel
theorem dX8_isApart_12 : decode cX8_isApart 12 = .ok (.iaload, 1) := by decide +kernel
theorem dX8_isApart_13 : decode cX8_isApart 13 = .ok (.if_icmp .ge 105, 3) := by decide +kernel
theorem dX8_isApart_16 : decode cX8_isApart 16 = .ok (.aload_n 0, 1) := by decide +kernel
theorem dX8_isApart_17 : decode cX8_isApart 17 = .ok (.getfield 7, 3) := by decide +kernel
theorem dX8_isApart_20 : decode cX8_isApart 20 = .ok (.bipush 64, 2) := by decide +kernel
theorem dX8_isApart_22 : decode cX8_isApart 22 = .ok (.iload 4, 2) := by decide +kernel
theorem dX8_isApart_24 : decode cX8_isApart 24 = .ok (.iadd, 1) := by decide +kernel
theorem dX8_isApart_25 : decode cX8_isApart 25 = .ok (.iaload, 1) := by decide +kernel
theorem dX8_isApart_26 : decode cX8_isApart 26 = .ok (.istore 5, 2) := by decide +kernel
theorem dX8_isApart_28 : decode cX8_isApart 28 = .ok (.iload_n 2, 1) := by decide +kernel
theorem dX8_isApart_29 : decode cX8_isApart 29 = .ok (.aload_n 0, 1) := by decide +kernel
theorem dX8_isApart_30 : decode cX8_isApart 30 = .ok (.iload_n 1, 1) := by decide +kernel
theorem dX8_isApart_31 : decode cX8_isApart 31 = .ok (.iconst 0, 1) := by decide +kernel
theorem dX8_isApart_32 : decode cX8_isApart 32 = .ok (.invokevirtual 118, 3) := by decide +kernel
theorem dX8_isApart_35 : decode cX8_isApart 35 = .ok (.iadd, 1) := by decide +kernel
theorem dX8_isApart_36 : decode cX8_isApart 36 = .ok (.aload_n 0, 1) := by decide +kernel
theorem dX8_isApart_37 : decode cX8_isApart 37 = .ok (.getfield 7, 3) := by decide +kernel
theorem dX8_isApart_40 : decode cX8_isApart 40 = .ok (.iconst 2, 1) := by decide +kernel
theorem dX8_isApart_41 : decode cX8_isApart 41 = .ok (.iaload, 1) := by decide +kernel
theorem dX8_isApart_42 : decode cX8_isApart 42 = .ok (.iadd, 1) := by decide +kernel
theorem dX8_isApart_43 : decode cX8_isApart 43 = .ok (.iload 5, 2) := by decide +kernel
theorem dX8_isApart_45 : decode cX8_isApart 45 = .ok (.if_icmp .gt 7, 3) := by decide +kernel
theorem dX8_isApart_48 : decode cX8_isApart 48 = .ok (.iconst 1, 1) := by decide +kernel
theorem dX8_isApart_49 : decode cX8_isApart 49 = .ok (.goto 4, 3) := by decide +kernel
theorem dX8_isApart_52 : decode cX8_isApart 52 = .ok (.iconst 0, 1) := by decide +kernel
theorem dX8_isApart_53 : decode cX8_isApart 53 = .ok (.istore 6, 2) := by decide +kernel
theorem dX8_isApart_55 : decode cX8_isApart 55 = .ok (.iload 5, 2) := by decide +kernel
theorem dX8_isApart_57 : decode cX8_isApart 57 = .ok (.aload_n 0, 1) := by decide +kernel
theorem dX8_isApart_58 : decode cX8_isApart 58 = .ok (.iload 4, 2) := by decide +kernel
theorem dX8_isApart_60 : decode cX8_isApart 60 = .ok (.iconst 0, 1) := by decide +kernel
theorem dX8_isApart_61 : decode cX8_isApart 61 = .ok (.invokevirtual 118, 3) := by decide +kernel
theorem dX8_isApart_64 : decode cX8_isApart 64 = .ok (.iadd, 1) := by decide +kernel
theorem dX8_isApart_65 : decode cX8_isApart 65 = .ok (.aload_n 0, 1) := by decide +kernel
theorem dX8_isApart_66 : decode cX8_isApart 66 = .ok (.getfield 7, 3) := by decide +kernel
theorem dX8_isApart_69 : decode cX8_isApart 69 = .ok (.iconst 2, 1) := by decide +kernel
theorem dX8_isApart_70 : decode cX8_isApart 70 = .ok (.iaload, 1) := by decide +kernel
theorem dX8_isApart_71 : decode cX8_isApart 71 = .ok (.iadd, 1) := by decide +kernel
theorem dX8_isApart_72 : decode cX8_isApart 72 = .ok (.iload_n 2, 1) := by decide +kernel
theorem dX8_isApart_73 : decode cX8_isApart 73 = .ok (.if_icmp .gt 7, 3) := by decide +kernel
theorem dX8_isApart_76 : decode cX8_isApart 76 = .ok (.iconst 1, 1) := by decide +kernel
theorem dX8_isApart_77 : decode cX8_isApart 77 = .ok (.goto 4, 3) := by decide +kernel
theorem dX8_isApart_80 : decode cX8_isApart 80 = .ok (.iconst 0, 1) := by decide +kernel
theorem dX8_isApart_81 : decode cX8_isApart 81 = .ok (.istore 7, 2) := by decide +kernel
theorem dX8_isApart_83 : decode cX8_isApart 83 = .ok (.iload_n 3, 1) := by decide +kernel
theorem dX8_isApart_84 : decode cX8_isApart 84 = .ok (.ifCond .eq 26, 3) := by decide +kernel
theorem dX8_isApart_87 : decode cX8_isApart 87 = .ok (.aload_n 0, 1) := by decide +kernel
theorem dX8_isApart_88 : decode cX8_isApart 88 = .ok (.iload 4, 2) := by decide +kernel
theorem dX8_isApart_90 : decode cX8_isApart 90 = .ok (.invokevirtual 122, 3) := by decide +kernel
theorem dX8_isApart_93 : decode cX8_isApart 93 = .ok (.ifCond .eq 13, 3) := by decide +kernel
theorem dX8_isApart_96 : decode cX8_isApart 96 = .ok (.iload 6, 2) := by decide +kernel
theorem dX8_isApart_98 : decode cX8_isApart 98 = .ok (.ifCond .ne 8, 3) := by decide +kernel
theorem dX8_isApart_101 : decode cX8_isApart 101 = .ok (.iload 7, 2) := by decide +kernel
theorem dX8_isApart_103 : decode cX8_isApart 103 = .ok (.ifCond .eq 7, 3) := by decide +kernel
theorem dX8_isApart_106 : decode cX8_isApart 106 = .ok (.iconst 1, 1) := by decide +kernel
theorem dX8_isApart_107 : decode cX8_isApart 107 = .ok (.goto 4, 3) := by decide +kernel
theorem dX8_isApart_110 : decode cX8_isApart 110 = .ok (.iconst 0, 1) := by decide +kernel
theorem dX8_isApart_111 : decode cX8_isApart 111 = .ok (.istore_n 3, 1) := by decide +kernel
theorem dX8_isApart_112 : decode cX8_isApart 112 = .ok (.iinc 4 1, 3) := by decide +kernel
theorem dX8_isApart_115 : decode cX8_isApart 115 = .ok (.goto (-110), 3) := by decide +kernel
theorem dX8_isApart_118 : decode cX8_isApart 118 = .ok (.iload_n 3, 1) := by decide +kernel
theorem dX8_isApart_119 : decode cX8_isApart 119 = .ok (.ireturn, 1) := by decide +kernel
theorem dX8_holeAt_0 : decode cX8_holeAt 0 = .ok (.bipush (-9), 2) := by decide +kernel
theorem dX8_holeAt_2 : decode cX8_holeAt 2 = .ok (.istore_n 3, 1) := by decide +kernel
theorem dX8_holeAt_3 : decode cX8_holeAt 3 = .ok (.iconst 0, 1) := by decide +kernel
theorem dX8_holeAt_4 : decode cX8_holeAt 4 = .ok (.istore 4, 2) := by decide +kernel
theorem dX8_holeAt_6 : decode cX8_holeAt 6 = .ok (.iload 4, 2) := by decide +kernel
theorem dX8_holeAt_8 : decode cX8_holeAt 8 = .ok (.aload_n 0, 1) := by decide +kernel
theorem dX8_holeAt_9 : decode cX8_holeAt 9 = .ok (.getfield 7, 3) := by decide +kernel
theorem dX8_holeAt_12 : decode cX8_holeAt 12 = .ok (.bipush 31, 2) := by decide +kernel
theorem dX8_holeAt_14 : decode cX8_holeAt 14 = .ok (.iaload, 1) := by decide +kernel
theorem dX8_holeAt_15 : decode cX8_holeAt 15 = .ok (.if_icmp .ge 50, 3) := by decide +kernel
theorem dX8_holeAt_18 : decode cX8_holeAt 18 = .ok (.aload_n 0, 1) := by decide +kernel
theorem dX8_holeAt_19 : decode cX8_holeAt 19 = .ok (.getfield 7, 3) := by decide +kernel
theorem dX8_holeAt_22 : decode cX8_holeAt 22 = .ok (.bipush 32, 2) := by decide +kernel
theorem dX8_holeAt_24 : decode cX8_holeAt 24 = .ok (.iconst 2, 1) := by decide +kernel
theorem dX8_holeAt_25 : decode cX8_holeAt 25 = .ok (.iload 4, 2) := by decide +kernel
theorem dX8_holeAt_27 : decode cX8_holeAt 27 = .ok (.imul, 1) := by decide +kernel
theorem dX8_holeAt_28 : decode cX8_holeAt 28 = .ok (.iadd, 1) := by decide +kernel
theorem dX8_holeAt_29 : decode cX8_holeAt 29 = .ok (.iaload, 1) := by decide +kernel
theorem dX8_holeAt_30 : decode cX8_holeAt 30 = .ok (.iload_n 1, 1) := by decide +kernel
theorem dX8_holeAt_31 : decode cX8_holeAt 31 = .ok (.if_icmp .ne 26, 3) := by decide +kernel
theorem dX8_holeAt_34 : decode cX8_holeAt 34 = .ok (.aload_n 0, 1) := by decide +kernel
theorem dX8_holeAt_35 : decode cX8_holeAt 35 = .ok (.getfield 7, 3) := by decide +kernel
theorem dX8_holeAt_38 : decode cX8_holeAt 38 = .ok (.bipush 32, 2) := by decide +kernel
theorem dX8_holeAt_40 : decode cX8_holeAt 40 = .ok (.iconst 2, 1) := by decide +kernel
theorem dX8_holeAt_41 : decode cX8_holeAt 41 = .ok (.iload 4, 2) := by decide +kernel
theorem dX8_holeAt_43 : decode cX8_holeAt 43 = .ok (.imul, 1) := by decide +kernel
theorem dX8_holeAt_44 : decode cX8_holeAt 44 = .ok (.iadd, 1) := by decide +kernel
theorem dX8_holeAt_45 : decode cX8_holeAt 45 = .ok (.iconst 1, 1) := by decide +kernel
theorem dX8_holeAt_46 : decode cX8_holeAt 46 = .ok (.iadd, 1) := by decide +kernel
theorem dX8_holeAt_47 : decode cX8_holeAt 47 = .ok (.iaload, 1) := by decide +kernel
theorem dX8_holeAt_48 : decode cX8_holeAt 48 = .ok (.iload_n 2, 1) := by decide +kernel
theorem dX8_holeAt_49 : decode cX8_holeAt 49 = .ok (.if_icmp .ne 8, 3) := by decide +kernel
theorem dX8_holeAt_52 : decode cX8_holeAt 52 = .ok (.iload 4, 2) := by decide +kernel
theorem dX8_holeAt_54 : decode cX8_holeAt 54 = .ok (.goto 4, 3) := by decide +kernel
theorem dX8_holeAt_57 : decode cX8_holeAt 57 = .ok (.iload_n 3, 1) := by decide +kernel
theorem dX8_holeAt_58 : decode cX8_holeAt 58 = .ok (.istore_n 3, 1) := by decide +kernel
theorem dX8_holeAt_59 : decode cX8_holeAt 59 = .ok (.iinc 4 1, 3) := by decide +kernel
theorem dX8_holeAt_62 : decode cX8_holeAt 62 = .ok (.goto (-56), 3) := by decide +kernel
theorem dX8_holeAt_65 : decode cX8_holeAt 65 = .ok (.iload_n 3, 1) := by decide +kernel
theorem dX8_holeAt_66 : decode cX8_holeAt 66 = .ok (.ireturn, 1) := by decide +kernel
theorem dX8_hasHole_0 : decode cX8_hasHole 0 = .ok (.aload_n 0, 1) := by decide +kernel
theorem dX8_hasHole_1 : decode cX8_hasHole 1 = .ok (.aload_n 0, 1) := by decide +kernel
theorem dX8_hasHole_2 : decode cX8_hasHole 2 = .ok (.iload_n 1, 1) := by decide +kernel
theorem dX8_hasHole_3 : decode cX8_hasHole 3 = .ok (.iload_n 2, 1) := by decide +kernel
theorem dX8_hasHole_4 : decode cX8_hasHole 4 = .ok (.invokevirtual 126, 3) := by decide +kernel
theorem dX8_hasHole_7 : decode cX8_hasHole 7 = .ok (.aload_n 0, 1) := by decide +kernel
theorem dX8_hasHole_8 : decode cX8_hasHole 8 = .ok (.iload_n 1, 1) := by decide +kernel
theorem dX8_hasHole_9 : decode cX8_hasHole 9 = .ok (.invokevirtual 129, 3) := by decide +kernel
theorem dX8_hasHole_12 : decode cX8_hasHole 12 = .ok (.invokevirtual 133, 3) := by decide +kernel
theorem dX8_hasHole_15 : decode cX8_hasHole 15 = .ok (.bipush (-9), 2) := by decide +kernel
theorem dX8_hasHole_17 : decode cX8_hasHole 17 = .ok (.if_icmp .eq 7, 3) := by decide +kernel
theorem dX8_hasHole_20 : decode cX8_hasHole 20 = .ok (.iconst 1, 1) := by decide +kernel
theorem dX8_hasHole_21 : decode cX8_hasHole 21 = .ok (.goto 4, 3) := by decide +kernel
theorem dX8_hasHole_24 : decode cX8_hasHole 24 = .ok (.iconst 0, 1) := by decide +kernel
theorem dX8_hasHole_25 : decode cX8_hasHole 25 = .ok (.ireturn, 1) := by decide +kernel
theorem dX8_hangingAt_0 : decode cX8_hangingAt 0 = .ok (.bipush (-9), 2) := by decide +kernel
theorem dX8_hangingAt_2 : decode cX8_hangingAt 2 = .ok (.istore_n 2, 1) := by decide +kernel
theorem dX8_hangingAt_3 : decode cX8_hangingAt 3 = .ok (.iconst 0, 1) := by decide +kernel
theorem dX8_hangingAt_4 : decode cX8_hangingAt 4 = .ok (.istore_n 3, 1) := by decide +kernel
theorem dX8_hangingAt_5 : decode cX8_hangingAt 5 = .ok (.iload_n 3, 1) := by decide +kernel
theorem dX8_hangingAt_6 : decode cX8_hangingAt 6 = .ok (.aload_n 0, 1) := by decide +kernel
theorem dX8_hangingAt_7 : decode cX8_hangingAt 7 = .ok (.getfield 7, 3) := by decide +kernel
theorem dX8_hangingAt_10 : decode cX8_hangingAt 10 = .ok (.iconst 3, 1) := by decide +kernel
theorem dX8_hangingAt_11 : decode cX8_hangingAt 11 = .ok (.iaload, 1) := by decide +kernel
theorem dX8_hangingAt_12 : decode cX8_hangingAt 12 = .ok (.if_icmp .ge 84, 3) := by decide +kernel
theorem dX8_hangingAt_15 : decode cX8_hangingAt 15 = .ok (.aload_n 0, 1) := by decide +kernel
theorem dX8_hangingAt_16 : decode cX8_hangingAt 16 = .ok (.iload_n 3, 1) := by decide +kernel
theorem dX8_hangingAt_17 : decode cX8_hangingAt 17 = .ok (.invokevirtual 122, 3) := by decide +kernel
theorem dX8_hangingAt_20 : decode cX8_hangingAt 20 = .ok (.ifCond .eq 56, 3) := by decide +kernel
theorem dX8_hangingAt_23 : decode cX8_hangingAt 23 = .ok (.aload_n 0, 1) := by decide +kernel
theorem dX8_hangingAt_24 : decode cX8_hangingAt 24 = .ok (.iload_n 3, 1) := by decide +kernel
theorem dX8_hangingAt_25 : decode cX8_hangingAt 25 = .ok (.aload_n 0, 1) := by decide +kernel
theorem dX8_hangingAt_26 : decode cX8_hangingAt 26 = .ok (.getfield 7, 3) := by decide +kernel
theorem dX8_hangingAt_29 : decode cX8_hangingAt 29 = .ok (.bipush 64, 2) := by decide +kernel
theorem dX8_hangingAt_31 : decode cX8_hangingAt 31 = .ok (.iload_n 3, 1) := by decide +kernel
theorem dX8_hangingAt_32 : decode cX8_hangingAt 32 = .ok (.iadd, 1) := by decide +kernel
theorem dX8_hangingAt_33 : decode cX8_hangingAt 33 = .ok (.iaload, 1) := by decide +kernel
theorem dX8_hangingAt_34 : decode cX8_hangingAt 34 = .ok (.invokevirtual 126, 3) := by decide +kernel
theorem dX8_hangingAt_37 : decode cX8_hangingAt 37 = .ok (.aload_n 0, 1) := by decide +kernel
theorem dX8_hangingAt_38 : decode cX8_hangingAt 38 = .ok (.getfield 7, 3) := by decide +kernel
theorem dX8_hangingAt_41 : decode cX8_hangingAt 41 = .ok (.bipush 32, 2) := by decide +kernel
theorem dX8_hangingAt_43 : decode cX8_hangingAt 43 = .ok (.iconst 2, 1) := by decide +kernel
theorem dX8_hangingAt_44 : decode cX8_hangingAt 44 = .ok (.iload_n 1, 1) := by decide +kernel
theorem dX8_hangingAt_45 : decode cX8_hangingAt 45 = .ok (.imul, 1) := by decide +kernel
theorem dX8_hangingAt_46 : decode cX8_hangingAt 46 = .ok (.iadd, 1) := by decide +kernel
theorem dX8_hangingAt_47 : decode cX8_hangingAt 47 = .ok (.iaload, 1) := by decide +kernel
theorem dX8_hangingAt_48 : decode cX8_hangingAt 48 = .ok (.if_icmp .ne 28, 3) := by decide +kernel
theorem dX8_hangingAt_51 : decode cX8_hangingAt 51 = .ok (.aload_n 0, 1) := by decide +kernel
theorem dX8_hangingAt_52 : decode cX8_hangingAt 52 = .ok (.iload_n 3, 1) := by decide +kernel
theorem dX8_hangingAt_53 : decode cX8_hangingAt 53 = .ok (.invokevirtual 129, 3) := by decide +kernel
theorem dX8_hangingAt_56 : decode cX8_hangingAt 56 = .ok (.aload_n 0, 1) := by decide +kernel
theorem dX8_hangingAt_57 : decode cX8_hangingAt 57 = .ok (.getfield 7, 3) := by decide +kernel
theorem dX8_hangingAt_60 : decode cX8_hangingAt 60 = .ok (.bipush 32, 2) := by decide +kernel
theorem dX8_hangingAt_62 : decode cX8_hangingAt 62 = .ok (.iconst 2, 1) := by decide +kernel
theorem dX8_hangingAt_63 : decode cX8_hangingAt 63 = .ok (.iload_n 1, 1) := by decide +kernel
theorem dX8_hangingAt_64 : decode cX8_hangingAt 64 = .ok (.imul, 1) := by decide +kernel
theorem dX8_hangingAt_65 : decode cX8_hangingAt 65 = .ok (.iadd, 1) := by decide +kernel
theorem dX8_hangingAt_66 : decode cX8_hangingAt 66 = .ok (.iconst 1, 1) := by decide +kernel
theorem dX8_hangingAt_67 : decode cX8_hangingAt 67 = .ok (.iadd, 1) := by decide +kernel
theorem dX8_hangingAt_68 : decode cX8_hangingAt 68 = .ok (.iaload, 1) := by decide +kernel
theorem dX8_hangingAt_69 : decode cX8_hangingAt 69 = .ok (.if_icmp .ne 7, 3) := by decide +kernel
theorem dX8_hangingAt_72 : decode cX8_hangingAt 72 = .ok (.iconst 1, 1) := by decide +kernel
theorem dX8_hangingAt_73 : decode cX8_hangingAt 73 = .ok (.goto 4, 3) := by decide +kernel
theorem dX8_hangingAt_76 : decode cX8_hangingAt 76 = .ok (.iconst 0, 1) := by decide +kernel
theorem dX8_hangingAt_77 : decode cX8_hangingAt 77 = .ok (.istore 4, 2) := by decide +kernel
theorem dX8_hangingAt_79 : decode cX8_hangingAt 79 = .ok (.iload 4, 2) := by decide +kernel
theorem dX8_hangingAt_81 : decode cX8_hangingAt 81 = .ok (.ifCond .eq 7, 3) := by decide +kernel
theorem dX8_hangingAt_84 : decode cX8_hangingAt 84 = .ok (.iload_n 3, 1) := by decide +kernel
theorem dX8_hangingAt_85 : decode cX8_hangingAt 85 = .ok (.goto 4, 3) := by decide +kernel
theorem dX8_hangingAt_88 : decode cX8_hangingAt 88 = .ok (.iload_n 2, 1) := by decide +kernel
theorem dX8_hangingAt_89 : decode cX8_hangingAt 89 = .ok (.istore_n 2, 1) := by decide +kernel
theorem dX8_hangingAt_90 : decode cX8_hangingAt 90 = .ok (.iinc 3 1, 3) := by decide +kernel
theorem dX8_hangingAt_93 : decode cX8_hangingAt 93 = .ok (.goto (-88), 3) := by decide +kernel
theorem dX8_hangingAt_96 : decode cX8_hangingAt 96 = .ok (.iload_n 2, 1) := by decide +kernel
theorem dX8_hangingAt_97 : decode cX8_hangingAt 97 = .ok (.ireturn, 1) := by decide +kernel
theorem dX8_hangs_0 : decode cX8_hangs 0 = .ok (.aload_n 0, 1) := by decide +kernel
theorem dX8_hangs_1 : decode cX8_hangs 1 = .ok (.iload_n 1, 1) := by decide +kernel
theorem dX8_hangs_2 : decode cX8_hangs 2 = .ok (.invokevirtual 136, 3) := by decide +kernel
theorem dX8_hangs_5 : decode cX8_hangs 5 = .ok (.ifCond .eq 13, 3) := by decide +kernel
theorem dX8_hangs_8 : decode cX8_hangs 8 = .ok (.iload_n 2, 1) := by decide +kernel
theorem dX8_hangs_9 : decode cX8_hangs 9 = .ok (.iconst 0, 1) := by decide +kernel
theorem dX8_hangs_10 : decode cX8_hangs 10 = .ok (.bipush 39, 2) := by decide +kernel
theorem dX8_hangs_12 : decode cX8_hangs 12 = .ok (.invokestatic 67, 3) := by decide +kernel
theorem dX8_hangs_15 : decode cX8_hangs 15 = .ok (.ifCond .ne 5, 3) := by decide +kernel
theorem dX8_hangs_18 : decode cX8_hangs 18 = .ok (.iconst (-1), 1) := by decide +kernel
theorem dX8_hangs_19 : decode cX8_hangs 19 = .ok (.ireturn, 1) := by decide +kernel
theorem dX8_hangs_20 : decode cX8_hangs 20 = .ok (.aload_n 0, 1) := by decide +kernel
theorem dX8_hangs_21 : decode cX8_hangs 21 = .ok (.iload_n 1, 1) := by decide +kernel
theorem dX8_hangs_22 : decode cX8_hangs 22 = .ok (.invokevirtual 122, 3) := by decide +kernel
theorem dX8_hangs_25 : decode cX8_hangs 25 = .ok (.ifCond .ne 21, 3) := by decide +kernel
theorem dX8_hangs_28 : decode cX8_hangs 28 = .ok (.aload_n 0, 1) := by decide +kernel
theorem dX8_hangs_29 : decode cX8_hangs 29 = .ok (.iload_n 1, 1) := by decide +kernel
theorem dX8_hangs_30 : decode cX8_hangs 30 = .ok (.iload_n 2, 1) := by decide +kernel
theorem dX8_hangs_31 : decode cX8_hangs 31 = .ok (.invokevirtual 139, 3) := by decide +kernel
theorem dX8_hangs_34 : decode cX8_hangs 34 = .ok (.ifCond .eq 12, 3) := by decide +kernel
theorem dX8_hangs_37 : decode cX8_hangs 37 = .ok (.aload_n 0, 1) := by decide +kernel
theorem dX8_hangs_38 : decode cX8_hangs 38 = .ok (.iload_n 1, 1) := by decide +kernel
theorem dX8_hangs_39 : decode cX8_hangs 39 = .ok (.iload_n 2, 1) := by decide +kernel
theorem dX8_hangs_40 : decode cX8_hangs 40 = .ok (.invokevirtual 142, 3) := by decide +kernel
theorem dX8_hangs_43 : decode cX8_hangs 43 = .ok (.ifCond .ne 6, 3) := by decide +kernel
theorem dX8_hangs_46 : decode cX8_hangs 46 = .ok (.bipush (-2), 2) := by decide +kernel
theorem dX8_hangs_48 : decode cX8_hangs 48 = .ok (.ireturn, 1) := by decide +kernel
theorem dX8_hangs_49 : decode cX8_hangs 49 = .ok (.aload_n 0, 1) := by decide +kernel
theorem dX8_hangs_50 : decode cX8_hangs 50 = .ok (.iload_n 1, 1) := by decide +kernel
theorem dX8_hangs_51 : decode cX8_hangs 51 = .ok (.iload_n 2, 1) := by decide +kernel
theorem dX8_hangs_52 : decode cX8_hangs 52 = .ok (.invokevirtual 145, 3) := by decide +kernel
theorem dX8_hangs_55 : decode cX8_hangs 55 = .ok (.ifCond .ne 7, 3) := by decide +kernel
theorem dX8_hangs_58 : decode cX8_hangs 58 = .ok (.iconst 1, 1) := by decide +kernel
theorem dX8_hangs_59 : decode cX8_hangs 59 = .ok (.goto 4, 3) := by decide +kernel
theorem dX8_hangs_62 : decode cX8_hangs 62 = .ok (.iconst 0, 1) := by decide +kernel
theorem dX8_hangs_63 : decode cX8_hangs 63 = .ok (.istore_n 3, 1) := by decide +kernel
theorem dX8_hangs_64 : decode cX8_hangs 64 = .ok (.iload_n 3, 1) := by decide +kernel
theorem dX8_hangs_65 : decode cX8_hangs 65 = .ok (.ifCond .eq 18, 3) := by decide +kernel
theorem dX8_hangs_68 : decode cX8_hangs 68 = .ok (.aload_n 0, 1) := by decide +kernel
theorem dX8_hangs_69 : decode cX8_hangs 69 = .ok (.getfield 7, 3) := by decide +kernel
theorem dX8_hangs_72 : decode cX8_hangs 72 = .ok (.bipush 31, 2) := by decide +kernel
theorem dX8_hangs_74 : decode cX8_hangs 74 = .ok (.iaload, 1) := by decide +kernel
theorem dX8_hangs_75 : decode cX8_hangs 75 = .ok (.bipush 16, 2) := by decide +kernel
theorem dX8_hangs_77 : decode cX8_hangs 77 = .ok (.if_icmp .ne 6, 3) := by decide +kernel
theorem dX8_hangs_80 : decode cX8_hangs 80 = .ok (.bipush (-3), 2) := by decide +kernel
theorem dX8_hangs_82 : decode cX8_hangs 82 = .ok (.ireturn, 1) := by decide +kernel
theorem dX8_hangs_83 : decode cX8_hangs 83 = .ok (.aload_n 0, 1) := by decide +kernel
theorem dX8_hangs_84 : decode cX8_hangs 84 = .ok (.invokevirtual 115, 3) := by decide +kernel
theorem dX8_hangs_87 : decode cX8_hangs 87 = .ok (.aload_n 0, 1) := by decide +kernel
theorem dX8_hangs_88 : decode cX8_hangs 88 = .ok (.getfield 7, 3) := by decide +kernel
theorem dX8_hangs_91 : decode cX8_hangs 91 = .ok (.bipush 64, 2) := by decide +kernel
theorem dX8_hangs_93 : decode cX8_hangs 93 = .ok (.iload_n 1, 1) := by decide +kernel
theorem dX8_hangs_94 : decode cX8_hangs 94 = .ok (.iadd, 1) := by decide +kernel
theorem dX8_hangs_95 : decode cX8_hangs 95 = .ok (.iload_n 2, 1) := by decide +kernel
theorem dX8_hangs_96 : decode cX8_hangs 96 = .ok (.iastore, 1) := by decide +kernel
theorem dX8_hangs_97 : decode cX8_hangs 97 = .ok (.iload_n 3, 1) := by decide +kernel
theorem dX8_hangs_98 : decode cX8_hangs 98 = .ok (.ifCond .eq 55, 3) := by decide +kernel
theorem dX8_hangs_101 : decode cX8_hangs 101 = .ok (.bipush 32, 2) := by decide +kernel
theorem dX8_hangs_103 : decode cX8_hangs 103 = .ok (.iconst 2, 1) := by decide +kernel
theorem dX8_hangs_104 : decode cX8_hangs 104 = .ok (.aload_n 0, 1) := by decide +kernel
theorem dX8_hangs_105 : decode cX8_hangs 105 = .ok (.getfield 7, 3) := by decide +kernel
theorem dX8_hangs_108 : decode cX8_hangs 108 = .ok (.bipush 31, 2) := by decide +kernel
theorem dX8_hangs_110 : decode cX8_hangs 110 = .ok (.iaload, 1) := by decide +kernel
theorem dX8_hangs_111 : decode cX8_hangs 111 = .ok (.imul, 1) := by decide +kernel
theorem dX8_hangs_112 : decode cX8_hangs 112 = .ok (.iadd, 1) := by decide +kernel
theorem dX8_hangs_113 : decode cX8_hangs 113 = .ok (.istore 4, 2) := by decide +kernel
theorem dX8_hangs_115 : decode cX8_hangs 115 = .ok (.aload_n 0, 1) := by decide +kernel
theorem dX8_hangs_116 : decode cX8_hangs 116 = .ok (.getfield 7, 3) := by decide +kernel
theorem dX8_hangs_119 : decode cX8_hangs 119 = .ok (.iload 4, 2) := by decide +kernel
theorem dX8_hangs_121 : decode cX8_hangs 121 = .ok (.aload_n 0, 1) := by decide +kernel
theorem dX8_hangs_122 : decode cX8_hangs 122 = .ok (.iload_n 1, 1) := by decide +kernel
theorem dX8_hangs_123 : decode cX8_hangs 123 = .ok (.iload_n 2, 1) := by decide +kernel
theorem dX8_hangs_124 : decode cX8_hangs 124 = .ok (.invokevirtual 126, 3) := by decide +kernel
theorem dX8_hangs_127 : decode cX8_hangs 127 = .ok (.iastore, 1) := by decide +kernel
theorem dX8_hangs_128 : decode cX8_hangs 128 = .ok (.aload_n 0, 1) := by decide +kernel
theorem dX8_hangs_129 : decode cX8_hangs 129 = .ok (.getfield 7, 3) := by decide +kernel
theorem dX8_hangs_132 : decode cX8_hangs 132 = .ok (.iload 4, 2) := by decide +kernel
theorem dX8_hangs_134 : decode cX8_hangs 134 = .ok (.iconst 1, 1) := by decide +kernel
theorem dX8_hangs_135 : decode cX8_hangs 135 = .ok (.iadd, 1) := by decide +kernel
theorem dX8_hangs_136 : decode cX8_hangs 136 = .ok (.aload_n 0, 1) := by decide +kernel
theorem dX8_hangs_137 : decode cX8_hangs 137 = .ok (.iload_n 1, 1) := by decide +kernel
theorem dX8_hangs_138 : decode cX8_hangs 138 = .ok (.invokevirtual 129, 3) := by decide +kernel
theorem dX8_hangs_141 : decode cX8_hangs 141 = .ok (.iastore, 1) := by decide +kernel
theorem dX8_hangs_142 : decode cX8_hangs 142 = .ok (.aload_n 0, 1) := by decide +kernel
theorem dX8_hangs_143 : decode cX8_hangs 143 = .ok (.getfield 7, 3) := by decide +kernel
theorem dX8_hangs_146 : decode cX8_hangs 146 = .ok (.bipush 31, 2) := by decide +kernel
theorem dX8_hangs_148 : decode cX8_hangs 148 = .ok (.dup2, 1) := by decide +kernel
theorem dX8_hangs_149 : decode cX8_hangs 149 = .ok (.iaload, 1) := by decide +kernel
theorem dX8_hangs_150 : decode cX8_hangs 150 = .ok (.iconst 1, 1) := by decide +kernel
theorem dX8_hangs_151 : decode cX8_hangs 151 = .ok (.iadd, 1) := by decide +kernel
theorem dX8_hangs_152 : decode cX8_hangs 152 = .ok (.iastore, 1) := by decide +kernel
theorem dX8_hangs_153 : decode cX8_hangs 153 = .ok (.iload_n 3, 1) := by decide +kernel
theorem dX8_hangs_154 : decode cX8_hangs 154 = .ok (.ifCond .eq 7, 3) := by decide +kernel
theorem dX8_hangs_157 : decode cX8_hangs 157 = .ok (.iconst 1, 1) := by decide +kernel
theorem dX8_hangs_158 : decode cX8_hangs 158 = .ok (.goto 4, 3) := by decide +kernel
theorem dX8_hangs_161 : decode cX8_hangs 161 = .ok (.iconst 0, 1) := by decide +kernel
theorem dX8_hangs_162 : decode cX8_hangs 162 = .ok (.ireturn, 1) := by decide +kernel
theorem dX8_takes_0 : decode cX8_takes 0 = .ok (.aload_n 0, 1) := by decide +kernel
theorem dX8_takes_1 : decode cX8_takes 1 = .ok (.iload_n 1, 1) := by decide +kernel
theorem dX8_takes_2 : decode cX8_takes 2 = .ok (.invokevirtual 136, 3) := by decide +kernel
theorem dX8_takes_5 : decode cX8_takes 5 = .ok (.ifCond .ne 5, 3) := by decide +kernel
theorem dX8_takes_8 : decode cX8_takes 8 = .ok (.iconst (-1), 1) := by decide +kernel
theorem dX8_takes_9 : decode cX8_takes 9 = .ok (.ireturn, 1) := by decide +kernel
theorem dX8_takes_10 : decode cX8_takes 10 = .ok (.aload_n 0, 1) := by decide +kernel
theorem dX8_takes_11 : decode cX8_takes 11 = .ok (.iload_n 1, 1) := by decide +kernel
theorem dX8_takes_12 : decode cX8_takes 12 = .ok (.invokevirtual 122, 3) := by decide +kernel
theorem dX8_takes_15 : decode cX8_takes 15 = .ok (.ifCond .ne 6, 3) := by decide +kernel
theorem dX8_takes_18 : decode cX8_takes 18 = .ok (.bipush (-2), 2) := by decide +kernel
theorem dX8_takes_20 : decode cX8_takes 20 = .ok (.ireturn, 1) := by decide +kernel
theorem dX8_takes_21 : decode cX8_takes 21 = .ok (.aload_n 0, 1) := by decide +kernel
theorem dX8_takes_22 : decode cX8_takes 22 = .ok (.invokevirtual 115, 3) := by decide +kernel
theorem dX8_takes_25 : decode cX8_takes 25 = .ok (.aload_n 0, 1) := by decide +kernel
theorem dX8_takes_26 : decode cX8_takes 26 = .ok (.getfield 7, 3) := by decide +kernel
theorem dX8_takes_29 : decode cX8_takes 29 = .ok (.bipush 64, 2) := by decide +kernel
theorem dX8_takes_31 : decode cX8_takes 31 = .ok (.iload_n 1, 1) := by decide +kernel
theorem dX8_takes_32 : decode cX8_takes 32 = .ok (.iadd, 1) := by decide +kernel
theorem dX8_takes_33 : decode cX8_takes 33 = .ok (.iaload, 1) := by decide +kernel
theorem dX8_takes_34 : decode cX8_takes 34 = .ok (.istore_n 2, 1) := by decide +kernel
theorem dX8_takes_35 : decode cX8_takes 35 = .ok (.aload_n 0, 1) := by decide +kernel
theorem dX8_takes_36 : decode cX8_takes 36 = .ok (.getfield 7, 3) := by decide +kernel
theorem dX8_takes_39 : decode cX8_takes 39 = .ok (.bipush 64, 2) := by decide +kernel
theorem dX8_takes_41 : decode cX8_takes 41 = .ok (.iload_n 1, 1) := by decide +kernel
theorem dX8_takes_42 : decode cX8_takes 42 = .ok (.iadd, 1) := by decide +kernel
theorem dX8_takes_43 : decode cX8_takes 43 = .ok (.bipush (-9), 2) := by decide +kernel
theorem dX8_takes_45 : decode cX8_takes 45 = .ok (.iastore, 1) := by decide +kernel
theorem dX8_takes_46 : decode cX8_takes 46 = .ok (.iload_n 2, 1) := by decide +kernel
theorem dX8_takes_47 : decode cX8_takes 47 = .ok (.ireturn, 1) := by decide +kernel
theorem dX8_isHole_0 : decode cX8_isHole 0 = .ok (.iload_n 1, 1) := by decide +kernel
theorem dX8_isHole_1 : decode cX8_isHole 1 = .ok (.iconst 0, 1) := by decide +kernel
theorem dX8_isHole_2 : decode cX8_isHole 2 = .ok (.aload_n 0, 1) := by decide +kernel
theorem dX8_isHole_3 : decode cX8_isHole 3 = .ok (.getfield 7, 3) := by decide +kernel
theorem dX8_isHole_6 : decode cX8_isHole 6 = .ok (.bipush 31, 2) := by decide +kernel
theorem dX8_isHole_8 : decode cX8_isHole 8 = .ok (.iaload, 1) := by decide +kernel
theorem dX8_isHole_9 : decode cX8_isHole 9 = .ok (.iconst 1, 1) := by decide +kernel
theorem dX8_isHole_10 : decode cX8_isHole 10 = .ok (.isub, 1) := by decide +kernel
theorem dX8_isHole_11 : decode cX8_isHole 11 = .ok (.invokestatic 67, 3) := by decide +kernel
theorem dX8_isHole_14 : decode cX8_isHole 14 = .ok (.ireturn, 1) := by decide +kernel
theorem dX8_fills_0 : decode cX8_fills 0 = .ok (.aload_n 0, 1) := by decide +kernel
theorem dX8_fills_1 : decode cX8_fills 1 = .ok (.iload_n 1, 1) := by decide +kernel
theorem dX8_fills_2 : decode cX8_fills 2 = .ok (.invokevirtual 148, 3) := by decide +kernel
theorem dX8_fills_5 : decode cX8_fills 5 = .ok (.ifCond .ne 5, 3) := by decide +kernel
theorem dX8_fills_8 : decode cX8_fills 8 = .ok (.iconst (-1), 1) := by decide +kernel
theorem dX8_fills_9 : decode cX8_fills 9 = .ok (.ireturn, 1) := by decide +kernel
theorem dX8_fills_10 : decode cX8_fills 10 = .ok (.aload_n 0, 1) := by decide +kernel
theorem dX8_fills_11 : decode cX8_fills 11 = .ok (.iload_n 1, 1) := by decide +kernel
theorem dX8_fills_12 : decode cX8_fills 12 = .ok (.invokevirtual 151, 3) := by decide +kernel
theorem dX8_fills_15 : decode cX8_fills 15 = .ok (.bipush (-9), 2) := by decide +kernel
theorem dX8_fills_17 : decode cX8_fills 17 = .ok (.if_icmp .eq 6, 3) := by decide +kernel
theorem dX8_fills_20 : decode cX8_fills 20 = .ok (.bipush (-2), 2) := by decide +kernel
theorem dX8_fills_22 : decode cX8_fills 22 = .ok (.ireturn, 1) := by decide +kernel
theorem dX8_fills_23 : decode cX8_fills 23 = .ok (.aload_n 0, 1) := by decide +kernel
theorem dX8_fills_24 : decode cX8_fills 24 = .ok (.invokevirtual 115, 3) := by decide +kernel
theorem dX8_fills_27 : decode cX8_fills 27 = .ok (.aload_n 0, 1) := by decide +kernel
theorem dX8_fills_28 : decode cX8_fills 28 = .ok (.getfield 7, 3) := by decide +kernel
theorem dX8_fills_31 : decode cX8_fills 31 = .ok (.bipush 31, 2) := by decide +kernel
theorem dX8_fills_33 : decode cX8_fills 33 = .ok (.dup2, 1) := by decide +kernel
theorem dX8_fills_34 : decode cX8_fills 34 = .ok (.iaload, 1) := by decide +kernel
theorem dX8_fills_35 : decode cX8_fills 35 = .ok (.iconst 1, 1) := by decide +kernel
theorem dX8_fills_36 : decode cX8_fills 36 = .ok (.isub, 1) := by decide +kernel
theorem dX8_fills_37 : decode cX8_fills 37 = .ok (.iastore, 1) := by decide +kernel
theorem dX8_fills_38 : decode cX8_fills 38 = .ok (.bipush 32, 2) := by decide +kernel
theorem dX8_fills_40 : decode cX8_fills 40 = .ok (.iconst 2, 1) := by decide +kernel
theorem dX8_fills_41 : decode cX8_fills 41 = .ok (.iload_n 1, 1) := by decide +kernel
theorem dX8_fills_42 : decode cX8_fills 42 = .ok (.imul, 1) := by decide +kernel
theorem dX8_fills_43 : decode cX8_fills 43 = .ok (.iadd, 1) := by decide +kernel
theorem dX8_fills_44 : decode cX8_fills 44 = .ok (.istore_n 2, 1) := by decide +kernel
theorem dX8_fills_45 : decode cX8_fills 45 = .ok (.iload_n 2, 1) := by decide +kernel
theorem dX8_fills_46 : decode cX8_fills 46 = .ok (.bipush 32, 2) := by decide +kernel
theorem dX8_fills_48 : decode cX8_fills 48 = .ok (.iconst 2, 1) := by decide +kernel
theorem dX8_fills_49 : decode cX8_fills 49 = .ok (.aload_n 0, 1) := by decide +kernel
theorem dX8_fills_50 : decode cX8_fills 50 = .ok (.getfield 7, 3) := by decide +kernel
theorem dX8_fills_53 : decode cX8_fills 53 = .ok (.bipush 31, 2) := by decide +kernel
theorem dX8_fills_55 : decode cX8_fills 55 = .ok (.iaload, 1) := by decide +kernel
theorem dX8_fills_56 : decode cX8_fills 56 = .ok (.imul, 1) := by decide +kernel
theorem dX8_fills_57 : decode cX8_fills 57 = .ok (.iadd, 1) := by decide +kernel
theorem dX8_fills_58 : decode cX8_fills 58 = .ok (.if_icmp .ge 23, 3) := by decide +kernel
theorem dX8_fills_61 : decode cX8_fills 61 = .ok (.aload_n 0, 1) := by decide +kernel
theorem dX8_fills_62 : decode cX8_fills 62 = .ok (.getfield 7, 3) := by decide +kernel
theorem dX8_fills_65 : decode cX8_fills 65 = .ok (.iload_n 2, 1) := by decide +kernel
theorem dX8_fills_66 : decode cX8_fills 66 = .ok (.aload_n 0, 1) := by decide +kernel
theorem dX8_fills_67 : decode cX8_fills 67 = .ok (.getfield 7, 3) := by decide +kernel
theorem dX8_fills_70 : decode cX8_fills 70 = .ok (.iload_n 2, 1) := by decide +kernel
theorem dX8_fills_71 : decode cX8_fills 71 = .ok (.iconst 2, 1) := by decide +kernel
theorem dX8_fills_72 : decode cX8_fills 72 = .ok (.iadd, 1) := by decide +kernel
theorem dX8_fills_73 : decode cX8_fills 73 = .ok (.iaload, 1) := by decide +kernel
theorem dX8_fills_74 : decode cX8_fills 74 = .ok (.iastore, 1) := by decide +kernel
theorem dX8_fills_75 : decode cX8_fills 75 = .ok (.iinc 2 1, 3) := by decide +kernel
theorem dX8_fills_78 : decode cX8_fills 78 = .ok (.goto (-33), 3) := by decide +kernel
theorem dX8_fills_81 : decode cX8_fills 81 = .ok (.aload_n 0, 1) := by decide +kernel
theorem dX8_fills_82 : decode cX8_fills 82 = .ok (.getfield 7, 3) := by decide +kernel
theorem dX8_fills_85 : decode cX8_fills 85 = .ok (.bipush 31, 2) := by decide +kernel
theorem dX8_fills_87 : decode cX8_fills 87 = .ok (.iaload, 1) := by decide +kernel
theorem dX8_fills_88 : decode cX8_fills 88 = .ok (.ireturn, 1) := by decide +kernel
theorem dX8_lines_0 : decode cX8_lines 0 = .ok (.iload_n 1, 1) := by decide +kernel
theorem dX8_lines_1 : decode cX8_lines 1 = .ok (.iconst 5, 1) := by decide +kernel
theorem dX8_lines_2 : decode cX8_lines 2 = .ok (.bipush 20, 2) := by decide +kernel
theorem dX8_lines_4 : decode cX8_lines 4 = .ok (.invokestatic 67, 3) := by decide +kernel
theorem dX8_lines_7 : decode cX8_lines 7 = .ok (.ifCond .ne 5, 3) := by decide +kernel
theorem dX8_lines_10 : decode cX8_lines 10 = .ok (.iconst (-1), 1) := by decide +kernel
theorem dX8_lines_11 : decode cX8_lines 11 = .ok (.ireturn, 1) := by decide +kernel
theorem dX8_lines_12 : decode cX8_lines 12 = .ok (.aload_n 0, 1) := by decide +kernel
theorem dX8_lines_13 : decode cX8_lines 13 = .ok (.getfield 7, 3) := by decide +kernel
theorem dX8_lines_16 : decode cX8_lines 16 = .ok (.iconst 1, 1) := by decide +kernel
theorem dX8_lines_17 : decode cX8_lines 17 = .ok (.iaload, 1) := by decide +kernel
theorem dX8_lines_18 : decode cX8_lines 18 = .ok (.istore_n 2, 1) := by decide +kernel
theorem dX8_lines_19 : decode cX8_lines 19 = .ok (.iload_n 2, 1) := by decide +kernel
theorem dX8_lines_20 : decode cX8_lines 20 = .ok (.iload_n 1, 1) := by decide +kernel
theorem dX8_lines_21 : decode cX8_lines 21 = .ok (.if_icmp .ne 6, 3) := by decide +kernel
theorem dX8_lines_24 : decode cX8_lines 24 = .ok (.bipush (-2), 2) := by decide +kernel
theorem dX8_lines_26 : decode cX8_lines 26 = .ok (.ireturn, 1) := by decide +kernel
theorem dX8_lines_27 : decode cX8_lines 27 = .ok (.aload_n 0, 1) := by decide +kernel
theorem dX8_lines_28 : decode cX8_lines 28 = .ok (.invokevirtual 115, 3) := by decide +kernel
theorem dX8_lines_31 : decode cX8_lines 31 = .ok (.aload_n 0, 1) := by decide +kernel
theorem dX8_lines_32 : decode cX8_lines 32 = .ok (.getfield 7, 3) := by decide +kernel
theorem dX8_lines_35 : decode cX8_lines 35 = .ok (.iconst 1, 1) := by decide +kernel
theorem dX8_lines_36 : decode cX8_lines 36 = .ok (.iload_n 1, 1) := by decide +kernel
theorem dX8_lines_37 : decode cX8_lines 37 = .ok (.iastore, 1) := by decide +kernel
theorem dX8_lines_38 : decode cX8_lines 38 = .ok (.iconst 0, 1) := by decide +kernel
theorem dX8_lines_39 : decode cX8_lines 39 = .ok (.istore_n 3, 1) := by decide +kernel
theorem dX8_lines_40 : decode cX8_lines 40 = .ok (.iload_n 3, 1) := by decide +kernel
theorem dX8_lines_41 : decode cX8_lines 41 = .ok (.iconst 5, 1) := by decide +kernel
theorem dX8_lines_42 : decode cX8_lines 42 = .ok (.if_icmp .ge 20, 3) := by decide +kernel
theorem dX8_lines_45 : decode cX8_lines 45 = .ok (.aload_n 0, 1) := by decide +kernel
theorem dX8_lines_46 : decode cX8_lines 46 = .ok (.getfield 7, 3) := by decide +kernel
theorem dX8_lines_49 : decode cX8_lines 49 = .ok (.bipush 64, 2) := by decide +kernel
theorem dX8_lines_51 : decode cX8_lines 51 = .ok (.iload_n 3, 1) := by decide +kernel
theorem dX8_lines_52 : decode cX8_lines 52 = .ok (.iadd, 1) := by decide +kernel
theorem dX8_lines_53 : decode cX8_lines 53 = .ok (.bipush (-9), 2) := by decide +kernel
theorem dX8_lines_55 : decode cX8_lines 55 = .ok (.iastore, 1) := by decide +kernel
theorem dX8_lines_56 : decode cX8_lines 56 = .ok (.iinc 3 1, 3) := by decide +kernel
theorem dX8_lines_59 : decode cX8_lines 59 = .ok (.goto (-19), 3) := by decide +kernel
theorem dX8_lines_62 : decode cX8_lines 62 = .ok (.iload_n 2, 1) := by decide +kernel
theorem dX8_lines_63 : decode cX8_lines 63 = .ok (.ireturn, 1) := by decide +kernel
theorem dX8_undo_0 : decode cX8_undo 0 = .ok (.aload_n 0, 1) := by decide +kernel
theorem dX8_undo_1 : decode cX8_undo 1 = .ok (.getfield 108, 3) := by decide +kernel
theorem dX8_undo_4 : decode cX8_undo 4 = .ok (.ifCond .ne 6, 3) := by decide +kernel
theorem dX8_undo_7 : decode cX8_undo 7 = .ok (.bipush (-2), 2) := by decide +kernel
end
section
theorem dX8_undo_9 : decode cX8_undo 9 = .ok (.ireturn, 1) := by decide +kernel
theorem dX8_undo_10 : decode cX8_undo 10 = .ok (.aload_n 0, 1) := by decide +kernel
theorem dX8_undo_11 : decode cX8_undo 11 = .ok (.dup, 1) := by decide +kernel
theorem dX8_undo_12 : decode cX8_undo 12 = .ok (.getfield 108, 3) := by decide +kernel
theorem dX8_undo_15 : decode cX8_undo 15 = .ok (.iconst 1, 1) := by decide +kernel
theorem dX8_undo_16 : decode cX8_undo 16 = .ok (.isub, 1) := by decide +kernel
theorem dX8_undo_17 : decode cX8_undo 17 = .ok (.putfield 108, 3) := by decide +kernel
theorem dX8_undo_20 : decode cX8_undo 20 = .ok (.iconst 0, 1) := by decide +kernel
theorem dX8_undo_21 : decode cX8_undo 21 = .ok (.istore_n 1, 1) := by decide +kernel
theorem dX8_undo_22 : decode cX8_undo 22 = .ok (.iload_n 1, 1) := by decide +kernel
theorem dX8_undo_23 : decode cX8_undo 23 = .ok (.bipush 69, 2) := by decide +kernel
theorem dX8_undo_25 : decode cX8_undo 25 = .ok (.if_icmp .ge 29, 3) := by decide +kernel
theorem dX8_undo_28 : decode cX8_undo 28 = .ok (.aload_n 0, 1) := by decide +kernel
theorem dX8_undo_29 : decode cX8_undo 29 = .ok (.getfield 7, 3) := by decide +kernel
theorem dX8_undo_32 : decode cX8_undo 32 = .ok (.iload_n 1, 1) := by decide +kernel
theorem dX8_undo_33 : decode cX8_undo 33 = .ok (.aload_n 0, 1) := by decide +kernel
theorem dX8_undo_34 : decode cX8_undo 34 = .ok (.getfield 16, 3) := by decide +kernel
theorem dX8_undo_37 : decode cX8_undo 37 = .ok (.bipush 69, 2) := by decide +kernel
theorem dX8_undo_39 : decode cX8_undo 39 = .ok (.aload_n 0, 1) := by decide +kernel
theorem dX8_undo_40 : decode cX8_undo 40 = .ok (.getfield 108, 3) := by decide +kernel
theorem dX8_undo_43 : decode cX8_undo 43 = .ok (.imul, 1) := by decide +kernel
theorem dX8_undo_44 : decode cX8_undo 44 = .ok (.iload_n 1, 1) := by decide +kernel
theorem dX8_undo_45 : decode cX8_undo 45 = .ok (.iadd, 1) := by decide +kernel
theorem dX8_undo_46 : decode cX8_undo 46 = .ok (.iaload, 1) := by decide +kernel
theorem dX8_undo_47 : decode cX8_undo 47 = .ok (.iastore, 1) := by decide +kernel
theorem dX8_undo_48 : decode cX8_undo 48 = .ok (.iinc 1 1, 3) := by decide +kernel
theorem dX8_undo_51 : decode cX8_undo 51 = .ok (.goto (-29), 3) := by decide +kernel
theorem dX8_undo_54 : decode cX8_undo 54 = .ok (.aload_n 0, 1) := by decide +kernel
theorem dX8_undo_55 : decode cX8_undo 55 = .ok (.getfield 108, 3) := by decide +kernel
theorem dX8_undo_58 : decode cX8_undo 58 = .ok (.ireturn, 1) := by decide +kernel
theorem dX8_picture_0 : decode cX8_picture 0 = .ok (.aload_n 0, 1) := by decide +kernel
theorem dX8_picture_1 : decode cX8_picture 1 = .ok (.iload_n 1, 1) := by decide +kernel
theorem dX8_picture_2 : decode cX8_picture 2 = .ok (.invokevirtual 136, 3) := by decide +kernel
theorem dX8_picture_5 : decode cX8_picture 5 = .ok (.ifCond .eq 12, 3) := by decide +kernel
theorem dX8_picture_8 : decode cX8_picture 8 = .ok (.iload_n 2, 1) := by decide +kernel
theorem dX8_picture_9 : decode cX8_picture 9 = .ok (.iconst 0, 1) := by decide +kernel
theorem dX8_picture_10 : decode cX8_picture 10 = .ok (.iconst 5, 1) := by decide +kernel
theorem dX8_picture_11 : decode cX8_picture 11 = .ok (.invokestatic 67, 3) := by decide +kernel
theorem dX8_picture_14 : decode cX8_picture 14 = .ok (.ifCond .ne 6, 3) := by decide +kernel
theorem dX8_picture_17 : decode cX8_picture 17 = .ok (.ldc 154, 2) := by decide +kernel
theorem dX8_picture_19 : decode cX8_picture 19 = .ok (.ireturn, 1) := by decide +kernel
theorem dX8_picture_20 : decode cX8_picture 20 = .ok (.iload_n 2, 1) := by decide +kernel
theorem dX8_picture_21 : decode cX8_picture 21 = .ok (.iconst 4, 1) := by decide +kernel
theorem dX8_picture_22 : decode cX8_picture 22 = .ok (.if_icmp .ge 12, 3) := by decide +kernel
theorem dX8_picture_25 : decode cX8_picture 25 = .ok (.aload_n 0, 1) := by decide +kernel
theorem dX8_picture_26 : decode cX8_picture 26 = .ok (.iload_n 1, 1) := by decide +kernel
theorem dX8_picture_27 : decode cX8_picture 27 = .ok (.iload_n 2, 1) := by decide +kernel
theorem dX8_picture_28 : decode cX8_picture 28 = .ok (.invokevirtual 118, 3) := by decide +kernel
theorem dX8_picture_31 : decode cX8_picture 31 = .ok (.goto 25, 3) := by decide +kernel
theorem dX8_picture_34 : decode cX8_picture 34 = .ok (.iload_n 2, 1) := by decide +kernel
theorem dX8_picture_35 : decode cX8_picture 35 = .ok (.iconst 4, 1) := by decide +kernel
theorem dX8_picture_36 : decode cX8_picture 36 = .ok (.if_icmp .ne 15, 3) := by decide +kernel
theorem dX8_picture_39 : decode cX8_picture 39 = .ok (.aload_n 0, 1) := by decide +kernel
theorem dX8_picture_40 : decode cX8_picture 40 = .ok (.getfield 7, 3) := by decide +kernel
theorem dX8_picture_43 : decode cX8_picture 43 = .ok (.bipush 64, 2) := by decide +kernel
theorem dX8_picture_45 : decode cX8_picture 45 = .ok (.iload_n 1, 1) := by decide +kernel
theorem dX8_picture_46 : decode cX8_picture 46 = .ok (.iadd, 1) := by decide +kernel
theorem dX8_picture_47 : decode cX8_picture 47 = .ok (.iaload, 1) := by decide +kernel
theorem dX8_picture_48 : decode cX8_picture 48 = .ok (.goto 8, 3) := by decide +kernel
theorem dX8_picture_51 : decode cX8_picture 51 = .ok (.aload_n 0, 1) := by decide +kernel
theorem dX8_picture_52 : decode cX8_picture 52 = .ok (.iload_n 1, 1) := by decide +kernel
theorem dX8_picture_53 : decode cX8_picture 53 = .ok (.invokevirtual 129, 3) := by decide +kernel
theorem dX8_picture_56 : decode cX8_picture 56 = .ok (.ireturn, 1) := by decide +kernel
theorem dX8_hole_0 : decode cX8_hole 0 = .ok (.aload_n 0, 1) := by decide +kernel
theorem dX8_hole_1 : decode cX8_hole 1 = .ok (.iload_n 1, 1) := by decide +kernel
theorem dX8_hole_2 : decode cX8_hole 2 = .ok (.invokevirtual 148, 3) := by decide +kernel
theorem dX8_hole_5 : decode cX8_hole 5 = .ok (.ifCond .eq 12, 3) := by decide +kernel
theorem dX8_hole_8 : decode cX8_hole 8 = .ok (.iload_n 2, 1) := by decide +kernel
theorem dX8_hole_9 : decode cX8_hole 9 = .ok (.iconst 0, 1) := by decide +kernel
theorem dX8_hole_10 : decode cX8_hole 10 = .ok (.iconst 2, 1) := by decide +kernel
theorem dX8_hole_11 : decode cX8_hole 11 = .ok (.invokestatic 67, 3) := by decide +kernel
theorem dX8_hole_14 : decode cX8_hole 14 = .ok (.ifCond .ne 6, 3) := by decide +kernel
theorem dX8_hole_17 : decode cX8_hole 17 = .ok (.ldc 154, 2) := by decide +kernel
theorem dX8_hole_19 : decode cX8_hole 19 = .ok (.ireturn, 1) := by decide +kernel
theorem dX8_hole_20 : decode cX8_hole 20 = .ok (.iload_n 2, 1) := by decide +kernel
theorem dX8_hole_21 : decode cX8_hole 21 = .ok (.iconst 2, 1) := by decide +kernel
theorem dX8_hole_22 : decode cX8_hole 22 = .ok (.if_icmp .ge 19, 3) := by decide +kernel
theorem dX8_hole_25 : decode cX8_hole 25 = .ok (.aload_n 0, 1) := by decide +kernel
theorem dX8_hole_26 : decode cX8_hole 26 = .ok (.getfield 7, 3) := by decide +kernel
theorem dX8_hole_29 : decode cX8_hole 29 = .ok (.bipush 32, 2) := by decide +kernel
theorem dX8_hole_31 : decode cX8_hole 31 = .ok (.iconst 2, 1) := by decide +kernel
theorem dX8_hole_32 : decode cX8_hole 32 = .ok (.iload_n 1, 1) := by decide +kernel
theorem dX8_hole_33 : decode cX8_hole 33 = .ok (.imul, 1) := by decide +kernel
theorem dX8_hole_34 : decode cX8_hole 34 = .ok (.iadd, 1) := by decide +kernel
theorem dX8_hole_35 : decode cX8_hole 35 = .ok (.iload_n 2, 1) := by decide +kernel
theorem dX8_hole_36 : decode cX8_hole 36 = .ok (.iadd, 1) := by decide +kernel
theorem dX8_hole_37 : decode cX8_hole 37 = .ok (.iaload, 1) := by decide +kernel
theorem dX8_hole_38 : decode cX8_hole 38 = .ok (.goto 8, 3) := by decide +kernel
theorem dX8_hole_41 : decode cX8_hole 41 = .ok (.aload_n 0, 1) := by decide +kernel
theorem dX8_hole_42 : decode cX8_hole 42 = .ok (.iload_n 1, 1) := by decide +kernel
theorem dX8_hole_43 : decode cX8_hole 43 = .ok (.invokevirtual 151, 3) := by decide +kernel
theorem dX8_hole_46 : decode cX8_hole 46 = .ok (.ireturn, 1) := by decide +kernel
theorem dX8_door_0 : decode cX8_door 0 = .ok (.iload_n 1, 1) := by decide +kernel
theorem dX8_door_1 : decode cX8_door 1 = .ok (.iconst 0, 1) := by decide +kernel
theorem dX8_door_2 : decode cX8_door 2 = .ok (.aload_n 0, 1) := by decide +kernel
theorem dX8_door_3 : decode cX8_door 3 = .ok (.getfield 7, 3) := by decide +kernel
theorem dX8_door_6 : decode cX8_door 6 = .ok (.bipush 24, 2) := by decide +kernel
theorem dX8_door_8 : decode cX8_door 8 = .ok (.iaload, 1) := by decide +kernel
theorem dX8_door_9 : decode cX8_door 9 = .ok (.iconst 1, 1) := by decide +kernel
theorem dX8_door_10 : decode cX8_door 10 = .ok (.isub, 1) := by decide +kernel
theorem dX8_door_11 : decode cX8_door 11 = .ok (.invokestatic 67, 3) := by decide +kernel
theorem dX8_door_14 : decode cX8_door 14 = .ok (.ifCond .eq 28, 3) := by decide +kernel
theorem dX8_door_17 : decode cX8_door 17 = .ok (.iload_n 2, 1) := by decide +kernel
theorem dX8_door_18 : decode cX8_door 18 = .ok (.iconst 0, 1) := by decide +kernel
theorem dX8_door_19 : decode cX8_door 19 = .ok (.iconst 1, 1) := by decide +kernel
theorem dX8_door_20 : decode cX8_door 20 = .ok (.invokestatic 67, 3) := by decide +kernel
theorem dX8_door_23 : decode cX8_door 23 = .ok (.ifCond .eq 19, 3) := by decide +kernel
theorem dX8_door_26 : decode cX8_door 26 = .ok (.aload_n 0, 1) := by decide +kernel
theorem dX8_door_27 : decode cX8_door 27 = .ok (.getfield 7, 3) := by decide +kernel
theorem dX8_door_30 : decode cX8_door 30 = .ok (.bipush 25, 2) := by decide +kernel
theorem dX8_door_32 : decode cX8_door 32 = .ok (.iconst 2, 1) := by decide +kernel
theorem dX8_door_33 : decode cX8_door 33 = .ok (.iload_n 1, 1) := by decide +kernel
theorem dX8_door_34 : decode cX8_door 34 = .ok (.imul, 1) := by decide +kernel
theorem dX8_door_35 : decode cX8_door 35 = .ok (.iadd, 1) := by decide +kernel
theorem dX8_door_36 : decode cX8_door 36 = .ok (.iload_n 2, 1) := by decide +kernel
theorem dX8_door_37 : decode cX8_door 37 = .ok (.iadd, 1) := by decide +kernel
theorem dX8_door_38 : decode cX8_door 38 = .ok (.iaload, 1) := by decide +kernel
theorem dX8_door_39 : decode cX8_door 39 = .ok (.goto 4, 3) := by decide +kernel
theorem dX8_door_42 : decode cX8_door 42 = .ok (.iconst (-1), 1) := by decide +kernel
theorem dX8_door_43 : decode cX8_door 43 = .ok (.ireturn, 1) := by decide +kernel
theorem dX8_leanOf_0 : decode cX8_leanOf 0 = .ok (.aload_n 0, 1) := by decide +kernel
theorem dX8_leanOf_1 : decode cX8_leanOf 1 = .ok (.iload_n 1, 1) := by decide +kernel
theorem dX8_leanOf_2 : decode cX8_leanOf 2 = .ok (.iconst 3, 1) := by decide +kernel
theorem dX8_leanOf_3 : decode cX8_leanOf 3 = .ok (.invokevirtual 118, 3) := by decide +kernel
theorem dX8_leanOf_6 : decode cX8_leanOf 6 = .ok (.aload_n 0, 1) := by decide +kernel
theorem dX8_leanOf_7 : decode cX8_leanOf 7 = .ok (.iload_n 1, 1) := by decide +kernel
theorem dX8_leanOf_8 : decode cX8_leanOf 8 = .ok (.iload_n 2, 1) := by decide +kernel
theorem dX8_leanOf_9 : decode cX8_leanOf 9 = .ok (.invokevirtual 126, 3) := by decide +kernel
theorem dX8_leanOf_12 : decode cX8_leanOf 12 = .ok (.aload_n 0, 1) := by decide +kernel
theorem dX8_leanOf_13 : decode cX8_leanOf 13 = .ok (.getfield 7, 3) := by decide +kernel
theorem dX8_leanOf_16 : decode cX8_leanOf 16 = .ok (.iconst 0, 1) := by decide +kernel
theorem dX8_leanOf_17 : decode cX8_leanOf 17 = .ok (.iaload, 1) := by decide +kernel
theorem dX8_leanOf_18 : decode cX8_leanOf 18 = .ok (.isub, 1) := by decide +kernel
theorem dX8_leanOf_19 : decode cX8_leanOf 19 = .ok (.imul, 1) := by decide +kernel
theorem dX8_leanOf_20 : decode cX8_leanOf 20 = .ok (.ireturn, 1) := by decide +kernel
theorem dX8_momentNow_0 : decode cX8_momentNow 0 = .ok (.iconst 0, 1) := by decide +kernel
theorem dX8_momentNow_1 : decode cX8_momentNow 1 = .ok (.istore_n 1, 1) := by decide +kernel
theorem dX8_momentNow_2 : decode cX8_momentNow 2 = .ok (.iconst 0, 1) := by decide +kernel
theorem dX8_momentNow_3 : decode cX8_momentNow 3 = .ok (.istore_n 2, 1) := by decide +kernel
theorem dX8_momentNow_4 : decode cX8_momentNow 4 = .ok (.iload_n 2, 1) := by decide +kernel
theorem dX8_momentNow_5 : decode cX8_momentNow 5 = .ok (.aload_n 0, 1) := by decide +kernel
theorem dX8_momentNow_6 : decode cX8_momentNow 6 = .ok (.getfield 7, 3) := by decide +kernel
theorem dX8_momentNow_9 : decode cX8_momentNow 9 = .ok (.iconst 3, 1) := by decide +kernel
theorem dX8_momentNow_10 : decode cX8_momentNow 10 = .ok (.iaload, 1) := by decide +kernel
theorem dX8_momentNow_11 : decode cX8_momentNow 11 = .ok (.if_icmp .ge 38, 3) := by decide +kernel
theorem dX8_momentNow_14 : decode cX8_momentNow 14 = .ok (.iload_n 1, 1) := by decide +kernel
theorem dX8_momentNow_15 : decode cX8_momentNow 15 = .ok (.aload_n 0, 1) := by decide +kernel
theorem dX8_momentNow_16 : decode cX8_momentNow 16 = .ok (.iload_n 2, 1) := by decide +kernel
theorem dX8_momentNow_17 : decode cX8_momentNow 17 = .ok (.invokevirtual 122, 3) := by decide +kernel
theorem dX8_momentNow_20 : decode cX8_momentNow 20 = .ok (.ifCond .eq 20, 3) := by decide +kernel
theorem dX8_momentNow_23 : decode cX8_momentNow 23 = .ok (.aload_n 0, 1) := by decide +kernel
theorem dX8_momentNow_24 : decode cX8_momentNow 24 = .ok (.iload_n 2, 1) := by decide +kernel
theorem dX8_momentNow_25 : decode cX8_momentNow 25 = .ok (.aload_n 0, 1) := by decide +kernel
theorem dX8_momentNow_26 : decode cX8_momentNow 26 = .ok (.getfield 7, 3) := by decide +kernel
theorem dX8_momentNow_29 : decode cX8_momentNow 29 = .ok (.bipush 64, 2) := by decide +kernel
theorem dX8_momentNow_31 : decode cX8_momentNow 31 = .ok (.iload_n 2, 1) := by decide +kernel
theorem dX8_momentNow_32 : decode cX8_momentNow 32 = .ok (.iadd, 1) := by decide +kernel
theorem dX8_momentNow_33 : decode cX8_momentNow 33 = .ok (.iaload, 1) := by decide +kernel
theorem dX8_momentNow_34 : decode cX8_momentNow 34 = .ok (.invokevirtual 155, 3) := by decide +kernel
theorem dX8_momentNow_37 : decode cX8_momentNow 37 = .ok (.goto 4, 3) := by decide +kernel
theorem dX8_momentNow_40 : decode cX8_momentNow 40 = .ok (.iconst 0, 1) := by decide +kernel
theorem dX8_momentNow_41 : decode cX8_momentNow 41 = .ok (.iadd, 1) := by decide +kernel
theorem dX8_momentNow_42 : decode cX8_momentNow 42 = .ok (.istore_n 1, 1) := by decide +kernel
theorem dX8_momentNow_43 : decode cX8_momentNow 43 = .ok (.iinc 2 1, 3) := by decide +kernel
theorem dX8_momentNow_46 : decode cX8_momentNow 46 = .ok (.goto (-42), 3) := by decide +kernel
theorem dX8_momentNow_49 : decode cX8_momentNow 49 = .ok (.iload_n 1, 1) := by decide +kernel
theorem dX8_momentNow_50 : decode cX8_momentNow 50 = .ok (.ireturn, 1) := by decide +kernel
theorem dX8_off_0 : decode cX8_off 0 = .ok (.iload_n 0, 1) := by decide +kernel
theorem dX8_off_1 : decode cX8_off 1 = .ok (.ifCond .ge 8, 3) := by decide +kernel
theorem dX8_off_4 : decode cX8_off 4 = .ok (.iload_n 0, 1) := by decide +kernel
theorem dX8_off_5 : decode cX8_off 5 = .ok (.ineg, 1) := by decide +kernel
theorem dX8_off_6 : decode cX8_off 6 = .ok (.goto 4, 3) := by decide +kernel
theorem dX8_off_9 : decode cX8_off 9 = .ok (.iload_n 0, 1) := by decide +kernel
theorem dX8_off_10 : decode cX8_off 10 = .ok (.ireturn, 1) := by decide +kernel
theorem dX8_moment_0 : decode cX8_moment 0 = .ok (.iload_n 1, 1) := by decide +kernel
theorem dX8_moment_1 : decode cX8_moment 1 = .ok (.ifCond .ne 10, 3) := by decide +kernel
theorem dX8_moment_4 : decode cX8_moment 4 = .ok (.aload_n 0, 1) := by decide +kernel
theorem dX8_moment_5 : decode cX8_moment 5 = .ok (.invokevirtual 158, 3) := by decide +kernel
theorem dX8_moment_8 : decode cX8_moment 8 = .ok (.goto 20, 3) := by decide +kernel
theorem dX8_moment_11 : decode cX8_moment 11 = .ok (.iload_n 1, 1) := by decide +kernel
theorem dX8_moment_12 : decode cX8_moment 12 = .ok (.iconst 1, 1) := by decide +kernel
theorem dX8_moment_13 : decode cX8_moment 13 = .ok (.if_icmp .ne 13, 3) := by decide +kernel
theorem dX8_moment_16 : decode cX8_moment 16 = .ok (.aload_n 0, 1) := by decide +kernel
theorem dX8_moment_17 : decode cX8_moment 17 = .ok (.invokevirtual 158, 3) := by decide +kernel
theorem dX8_moment_20 : decode cX8_moment 20 = .ok (.invokestatic 161, 3) := by decide +kernel
theorem dX8_moment_23 : decode cX8_moment 23 = .ok (.goto 5, 3) := by decide +kernel
theorem dX8_moment_26 : decode cX8_moment 26 = .ok (.ldc 154, 2) := by decide +kernel
theorem dX8_moment_28 : decode cX8_moment 28 = .ok (.ireturn, 1) := by decide +kernel
theorem dX8_laysPlaces_0 : decode cX8_laysPlaces 0 = .ok (.iconst 0, 1) := by decide +kernel
theorem dX8_laysPlaces_1 : decode cX8_laysPlaces 1 = .ok (.istore_n 1, 1) := by decide +kernel
theorem dX8_laysPlaces_2 : decode cX8_laysPlaces 2 = .ok (.iload_n 1, 1) := by decide +kernel
theorem dX8_laysPlaces_3 : decode cX8_laysPlaces 3 = .ok (.bipush 40, 2) := by decide +kernel
theorem dX8_laysPlaces_5 : decode cX8_laysPlaces 5 = .ok (.aload_n 0, 1) := by decide +kernel
theorem dX8_laysPlaces_6 : decode cX8_laysPlaces 6 = .ok (.getfield 7, 3) := by decide +kernel
theorem dX8_laysPlaces_9 : decode cX8_laysPlaces 9 = .ok (.iconst 3, 1) := by decide +kernel
theorem dX8_laysPlaces_10 : decode cX8_laysPlaces 10 = .ok (.iaload, 1) := by decide +kernel
theorem dX8_laysPlaces_11 : decode cX8_laysPlaces 11 = .ok (.imul, 1) := by decide +kernel
theorem dX8_laysPlaces_12 : decode cX8_laysPlaces 12 = .ok (.if_icmp .ge 62, 3) := by decide +kernel
theorem dX8_laysPlaces_15 : decode cX8_laysPlaces 15 = .ok (.aload_n 0, 1) := by decide +kernel
theorem dX8_laysPlaces_16 : decode cX8_laysPlaces 16 = .ok (.getfield 44, 3) := by decide +kernel
theorem dX8_laysPlaces_19 : decode cX8_laysPlaces 19 = .ok (.iload_n 1, 1) := by decide +kernel
theorem dX8_laysPlaces_20 : decode cX8_laysPlaces 20 = .ok (.aload_n 0, 1) := by decide +kernel
theorem dX8_laysPlaces_21 : decode cX8_laysPlaces 21 = .ok (.iload_n 1, 1) := by decide +kernel
theorem dX8_laysPlaces_22 : decode cX8_laysPlaces 22 = .ok (.bipush 40, 2) := by decide +kernel
theorem dX8_laysPlaces_24 : decode cX8_laysPlaces 24 = .ok (.idiv, 1) := by decide +kernel
theorem dX8_laysPlaces_25 : decode cX8_laysPlaces 25 = .ok (.iload_n 1, 1) := by decide +kernel
theorem dX8_laysPlaces_26 : decode cX8_laysPlaces 26 = .ok (.bipush 40, 2) := by decide +kernel
theorem dX8_laysPlaces_28 : decode cX8_laysPlaces 28 = .ok (.irem, 1) := by decide +kernel
theorem dX8_laysPlaces_29 : decode cX8_laysPlaces 29 = .ok (.invokevirtual 139, 3) := by decide +kernel
theorem dX8_laysPlaces_32 : decode cX8_laysPlaces 32 = .ok (.bastore, 1) := by decide +kernel
theorem dX8_laysPlaces_33 : decode cX8_laysPlaces 33 = .ok (.aload_n 0, 1) := by decide +kernel
theorem dX8_laysPlaces_34 : decode cX8_laysPlaces 34 = .ok (.getfield 47, 3) := by decide +kernel
theorem dX8_laysPlaces_37 : decode cX8_laysPlaces 37 = .ok (.iload_n 1, 1) := by decide +kernel
theorem dX8_laysPlaces_38 : decode cX8_laysPlaces 38 = .ok (.aload_n 0, 1) := by decide +kernel
theorem dX8_laysPlaces_39 : decode cX8_laysPlaces 39 = .ok (.getfield 44, 3) := by decide +kernel
theorem dX8_laysPlaces_42 : decode cX8_laysPlaces 42 = .ok (.iload_n 1, 1) := by decide +kernel
theorem dX8_laysPlaces_43 : decode cX8_laysPlaces 43 = .ok (.baload, 1) := by decide +kernel
theorem dX8_laysPlaces_44 : decode cX8_laysPlaces 44 = .ok (.ifCond .eq 22, 3) := by decide +kernel
theorem dX8_laysPlaces_47 : decode cX8_laysPlaces 47 = .ok (.aload_n 0, 1) := by decide +kernel
theorem dX8_laysPlaces_48 : decode cX8_laysPlaces 48 = .ok (.iload_n 1, 1) := by decide +kernel
theorem dX8_laysPlaces_49 : decode cX8_laysPlaces 49 = .ok (.bipush 40, 2) := by decide +kernel
theorem dX8_laysPlaces_51 : decode cX8_laysPlaces 51 = .ok (.idiv, 1) := by decide +kernel
theorem dX8_laysPlaces_52 : decode cX8_laysPlaces 52 = .ok (.iload_n 1, 1) := by decide +kernel
theorem dX8_laysPlaces_53 : decode cX8_laysPlaces 53 = .ok (.bipush 40, 2) := by decide +kernel
theorem dX8_laysPlaces_55 : decode cX8_laysPlaces 55 = .ok (.irem, 1) := by decide +kernel
theorem dX8_laysPlaces_56 : decode cX8_laysPlaces 56 = .ok (.invokevirtual 145, 3) := by decide +kernel
theorem dX8_laysPlaces_59 : decode cX8_laysPlaces 59 = .ok (.ifCond .eq 7, 3) := by decide +kernel
theorem dX8_laysPlaces_62 : decode cX8_laysPlaces 62 = .ok (.iconst 1, 1) := by decide +kernel
theorem dX8_laysPlaces_63 : decode cX8_laysPlaces 63 = .ok (.goto 4, 3) := by decide +kernel
theorem dX8_laysPlaces_66 : decode cX8_laysPlaces 66 = .ok (.iconst 0, 1) := by decide +kernel
theorem dX8_laysPlaces_67 : decode cX8_laysPlaces 67 = .ok (.bastore, 1) := by decide +kernel
theorem dX8_laysPlaces_68 : decode cX8_laysPlaces 68 = .ok (.iinc 1 1, 3) := by decide +kernel
theorem dX8_laysPlaces_71 : decode cX8_laysPlaces 71 = .ok (.goto (-69), 3) := by decide +kernel
theorem dX8_laysPlaces_74 : decode cX8_laysPlaces 74 = .ok (.return_, 1) := by decide +kernel
theorem dX8_isOrder_0 : decode cX8_isOrder 0 = .ok (.iload_n 1, 1) := by decide +kernel
theorem dX8_isOrder_1 : decode cX8_isOrder 1 = .ok (.istore_n 2, 1) := by decide +kernel
theorem dX8_isOrder_2 : decode cX8_isOrder 2 = .ok (.iconst 0, 1) := by decide +kernel
theorem dX8_isOrder_3 : decode cX8_isOrder 3 = .ok (.istore_n 3, 1) := by decide +kernel
theorem dX8_isOrder_4 : decode cX8_isOrder 4 = .ok (.aload_n 0, 1) := by decide +kernel
theorem dX8_isOrder_5 : decode cX8_isOrder 5 = .ok (.getfield 7, 3) := by decide +kernel
theorem dX8_isOrder_8 : decode cX8_isOrder 8 = .ok (.iconst 3, 1) := by decide +kernel
theorem dX8_isOrder_9 : decode cX8_isOrder 9 = .ok (.iaload, 1) := by decide +kernel
theorem dX8_isOrder_10 : decode cX8_isOrder 10 = .ok (.iconst 1, 1) := by decide +kernel
theorem dX8_isOrder_11 : decode cX8_isOrder 11 = .ok (.isub, 1) := by decide +kernel
theorem dX8_isOrder_12 : decode cX8_isOrder 12 = .ok (.istore 4, 2) := by decide +kernel
theorem dX8_isOrder_14 : decode cX8_isOrder 14 = .ok (.iload 4, 2) := by decide +kernel
theorem dX8_isOrder_16 : decode cX8_isOrder 16 = .ok (.ifCond .lt 45, 3) := by decide +kernel
theorem dX8_isOrder_19 : decode cX8_isOrder 19 = .ok (.aload_n 0, 1) := by decide +kernel
theorem dX8_isOrder_20 : decode cX8_isOrder 20 = .ok (.getfield 35, 3) := by decide +kernel
theorem dX8_isOrder_23 : decode cX8_isOrder 23 = .ok (.iload 4, 2) := by decide +kernel
theorem dX8_isOrder_25 : decode cX8_isOrder 25 = .ok (.iload_n 2, 1) := by decide +kernel
theorem dX8_isOrder_26 : decode cX8_isOrder 26 = .ok (.aload_n 0, 1) := by decide +kernel
theorem dX8_isOrder_27 : decode cX8_isOrder 27 = .ok (.getfield 7, 3) := by decide +kernel
theorem dX8_isOrder_30 : decode cX8_isOrder 30 = .ok (.iconst 3, 1) := by decide +kernel
theorem dX8_isOrder_31 : decode cX8_isOrder 31 = .ok (.iaload, 1) := by decide +kernel
theorem dX8_isOrder_32 : decode cX8_isOrder 32 = .ok (.irem, 1) := by decide +kernel
theorem dX8_isOrder_33 : decode cX8_isOrder 33 = .ok (.iastore, 1) := by decide +kernel
theorem dX8_isOrder_34 : decode cX8_isOrder 34 = .ok (.iload_n 2, 1) := by decide +kernel
theorem dX8_isOrder_35 : decode cX8_isOrder 35 = .ok (.aload_n 0, 1) := by decide +kernel
theorem dX8_isOrder_36 : decode cX8_isOrder 36 = .ok (.getfield 7, 3) := by decide +kernel
theorem dX8_isOrder_39 : decode cX8_isOrder 39 = .ok (.iconst 3, 1) := by decide +kernel
theorem dX8_isOrder_40 : decode cX8_isOrder 40 = .ok (.iaload, 1) := by decide +kernel
theorem dX8_isOrder_41 : decode cX8_isOrder 41 = .ok (.idiv, 1) := by decide +kernel
theorem dX8_isOrder_42 : decode cX8_isOrder 42 = .ok (.istore_n 2, 1) := by decide +kernel
theorem dX8_isOrder_43 : decode cX8_isOrder 43 = .ok (.iload_n 3, 1) := by decide +kernel
theorem dX8_isOrder_44 : decode cX8_isOrder 44 = .ok (.iconst 1, 1) := by decide +kernel
theorem dX8_isOrder_45 : decode cX8_isOrder 45 = .ok (.aload_n 0, 1) := by decide +kernel
theorem dX8_isOrder_46 : decode cX8_isOrder 46 = .ok (.getfield 35, 3) := by decide +kernel
theorem dX8_isOrder_49 : decode cX8_isOrder 49 = .ok (.iload 4, 2) := by decide +kernel
theorem dX8_isOrder_51 : decode cX8_isOrder 51 = .ok (.iaload, 1) := by decide +kernel
theorem dX8_isOrder_52 : decode cX8_isOrder 52 = .ok (.ishl, 1) := by decide +kernel
theorem dX8_isOrder_53 : decode cX8_isOrder 53 = .ok (.ior, 1) := by decide +kernel
theorem dX8_isOrder_54 : decode cX8_isOrder 54 = .ok (.istore_n 3, 1) := by decide +kernel
theorem dX8_isOrder_55 : decode cX8_isOrder 55 = .ok (.iinc 4 (-1), 3) := by decide +kernel
theorem dX8_isOrder_58 : decode cX8_isOrder 58 = .ok (.goto (-44), 3) := by decide +kernel
theorem dX8_isOrder_61 : decode cX8_isOrder 61 = .ok (.iload_n 3, 1) := by decide +kernel
theorem dX8_isOrder_62 : decode cX8_isOrder 62 = .ok (.iconst 1, 1) := by decide +kernel
theorem dX8_isOrder_63 : decode cX8_isOrder 63 = .ok (.aload_n 0, 1) := by decide +kernel
theorem dX8_isOrder_64 : decode cX8_isOrder 64 = .ok (.getfield 7, 3) := by decide +kernel
theorem dX8_isOrder_67 : decode cX8_isOrder 67 = .ok (.iconst 3, 1) := by decide +kernel
theorem dX8_isOrder_68 : decode cX8_isOrder 68 = .ok (.iaload, 1) := by decide +kernel
theorem dX8_isOrder_69 : decode cX8_isOrder 69 = .ok (.ishl, 1) := by decide +kernel
theorem dX8_isOrder_70 : decode cX8_isOrder 70 = .ok (.iconst 1, 1) := by decide +kernel
theorem dX8_isOrder_71 : decode cX8_isOrder 71 = .ok (.isub, 1) := by decide +kernel
theorem dX8_isOrder_72 : decode cX8_isOrder 72 = .ok (.if_icmp .ne 7, 3) := by decide +kernel
theorem dX8_isOrder_75 : decode cX8_isOrder 75 = .ok (.iconst 1, 1) := by decide +kernel
theorem dX8_isOrder_76 : decode cX8_isOrder 76 = .ok (.goto 4, 3) := by decide +kernel
theorem dX8_isOrder_79 : decode cX8_isOrder 79 = .ok (.iconst 0, 1) := by decide +kernel
theorem dX8_isOrder_80 : decode cX8_isOrder 80 = .ok (.ireturn, 1) := by decide +kernel
theorem dX8_tries_0 : decode cX8_tries 0 = .ok (.iload_n 2, 1) := by decide +kernel
theorem dX8_tries_1 : decode cX8_tries 1 = .ok (.istore_n 3, 1) := by decide +kernel
theorem dX8_tries_2 : decode cX8_tries 2 = .ok (.iconst 0, 1) := by decide +kernel
theorem dX8_tries_3 : decode cX8_tries 3 = .ok (.istore 4, 2) := by decide +kernel
theorem dX8_tries_5 : decode cX8_tries 5 = .ok (.iconst 0, 1) := by decide +kernel
theorem dX8_tries_6 : decode cX8_tries 6 = .ok (.istore 5, 2) := by decide +kernel
theorem dX8_tries_8 : decode cX8_tries 8 = .ok (.iconst 0, 1) := by decide +kernel
theorem dX8_tries_9 : decode cX8_tries 9 = .ok (.istore 6, 2) := by decide +kernel
theorem dX8_tries_11 : decode cX8_tries 11 = .ok (.iload 6, 2) := by decide +kernel
theorem dX8_tries_13 : decode cX8_tries 13 = .ok (.aload_n 0, 1) := by decide +kernel
theorem dX8_tries_14 : decode cX8_tries 14 = .ok (.getfield 7, 3) := by decide +kernel
theorem dX8_tries_17 : decode cX8_tries 17 = .ok (.iconst 3, 1) := by decide +kernel
theorem dX8_tries_18 : decode cX8_tries 18 = .ok (.iaload, 1) := by decide +kernel
theorem dX8_tries_19 : decode cX8_tries 19 = .ok (.if_icmp .ge 89, 3) := by decide +kernel
theorem dX8_tries_22 : decode cX8_tries 22 = .ok (.aload_n 0, 1) := by decide +kernel
theorem dX8_tries_23 : decode cX8_tries 23 = .ok (.getfield 35, 3) := by decide +kernel
theorem dX8_tries_26 : decode cX8_tries 26 = .ok (.iload 6, 2) := by decide +kernel
theorem dX8_tries_28 : decode cX8_tries 28 = .ok (.iaload, 1) := by decide +kernel
theorem dX8_tries_29 : decode cX8_tries 29 = .ok (.istore 7, 2) := by decide +kernel
theorem dX8_tries_31 : decode cX8_tries 31 = .ok (.iload_n 3, 1) := by decide +kernel
theorem dX8_tries_32 : decode cX8_tries 32 = .ok (.bipush 39, 2) := by decide +kernel
theorem dX8_tries_34 : decode cX8_tries 34 = .ok (.if_icmp .gt 18, 3) := by decide +kernel
theorem dX8_tries_37 : decode cX8_tries 37 = .ok (.aload_n 0, 1) := by decide +kernel
theorem dX8_tries_38 : decode cX8_tries 38 = .ok (.getfield 44, 3) := by decide +kernel
theorem dX8_tries_41 : decode cX8_tries 41 = .ok (.bipush 40, 2) := by decide +kernel
theorem dX8_tries_43 : decode cX8_tries 43 = .ok (.iload 7, 2) := by decide +kernel
theorem dX8_tries_45 : decode cX8_tries 45 = .ok (.imul, 1) := by decide +kernel
theorem dX8_tries_46 : decode cX8_tries 46 = .ok (.iload_n 3, 1) := by decide +kernel
theorem dX8_tries_47 : decode cX8_tries 47 = .ok (.iadd, 1) := by decide +kernel
theorem dX8_tries_48 : decode cX8_tries 48 = .ok (.baload, 1) := by decide +kernel
theorem dX8_tries_49 : decode cX8_tries 49 = .ok (.ifCond .ne 4, 3) := by decide +kernel
theorem dX8_tries_52 : decode cX8_tries 52 = .ok (.return_, 1) := by decide +kernel
theorem dX8_tries_53 : decode cX8_tries 53 = .ok (.iload 4, 2) := by decide +kernel
theorem dX8_tries_55 : decode cX8_tries 55 = .ok (.aload_n 0, 1) := by decide +kernel
theorem dX8_tries_56 : decode cX8_tries 56 = .ok (.getfield 47, 3) := by decide +kernel
theorem dX8_tries_59 : decode cX8_tries 59 = .ok (.bipush 40, 2) := by decide +kernel
theorem dX8_tries_61 : decode cX8_tries 61 = .ok (.iload 7, 2) := by decide +kernel
theorem dX8_tries_63 : decode cX8_tries 63 = .ok (.imul, 1) := by decide +kernel
theorem dX8_tries_64 : decode cX8_tries 64 = .ok (.iload_n 3, 1) := by decide +kernel
theorem dX8_tries_65 : decode cX8_tries 65 = .ok (.iadd, 1) := by decide +kernel
theorem dX8_tries_66 : decode cX8_tries 66 = .ok (.baload, 1) := by decide +kernel
theorem dX8_tries_67 : decode cX8_tries 67 = .ok (.ifCond .eq 7, 3) := by decide +kernel
theorem dX8_tries_70 : decode cX8_tries 70 = .ok (.iconst 0, 1) := by decide +kernel
theorem dX8_tries_71 : decode cX8_tries 71 = .ok (.goto 4, 3) := by decide +kernel
theorem dX8_tries_74 : decode cX8_tries 74 = .ok (.iconst 1, 1) := by decide +kernel
theorem dX8_tries_75 : decode cX8_tries 75 = .ok (.iadd, 1) := by decide +kernel
theorem dX8_tries_76 : decode cX8_tries 76 = .ok (.istore 4, 2) := by decide +kernel
theorem dX8_tries_78 : decode cX8_tries 78 = .ok (.iload 5, 2) := by decide +kernel
theorem dX8_tries_80 : decode cX8_tries 80 = .ok (.aload_n 0, 1) := by decide +kernel
theorem dX8_tries_81 : decode cX8_tries 81 = .ok (.iload 7, 2) := by decide +kernel
theorem dX8_tries_83 : decode cX8_tries 83 = .ok (.iload_n 3, 1) := by decide +kernel
theorem dX8_tries_84 : decode cX8_tries 84 = .ok (.invokevirtual 155, 3) := by decide +kernel
theorem dX8_tries_87 : decode cX8_tries 87 = .ok (.iadd, 1) := by decide +kernel
theorem dX8_tries_88 : decode cX8_tries 88 = .ok (.istore 5, 2) := by decide +kernel
theorem dX8_tries_90 : decode cX8_tries 90 = .ok (.iload_n 3, 1) := by decide +kernel
theorem dX8_tries_91 : decode cX8_tries 91 = .ok (.aload_n 0, 1) := by decide +kernel
theorem dX8_tries_92 : decode cX8_tries 92 = .ok (.iload 7, 2) := by decide +kernel
theorem dX8_tries_94 : decode cX8_tries 94 = .ok (.iconst 0, 1) := by decide +kernel
theorem dX8_tries_95 : decode cX8_tries 95 = .ok (.invokevirtual 118, 3) := by decide +kernel
theorem dX8_tries_98 : decode cX8_tries 98 = .ok (.iload_n 1, 1) := by decide +kernel
theorem dX8_tries_99 : decode cX8_tries 99 = .ok (.iadd, 1) := by decide +kernel
theorem dX8_tries_100 : decode cX8_tries 100 = .ok (.iadd, 1) := by decide +kernel
theorem dX8_tries_101 : decode cX8_tries 101 = .ok (.istore_n 3, 1) := by decide +kernel
theorem dX8_tries_102 : decode cX8_tries 102 = .ok (.iinc 6 1, 3) := by decide +kernel
theorem dX8_tries_105 : decode cX8_tries 105 = .ok (.goto (-94), 3) := by decide +kernel
theorem dX8_tries_108 : decode cX8_tries 108 = .ok (.iload 5, 2) := by decide +kernel
theorem dX8_tries_110 : decode cX8_tries 110 = .ok (.invokestatic 161, 3) := by decide +kernel
theorem dX8_tries_113 : decode cX8_tries 113 = .ok (.istore 6, 2) := by decide +kernel
theorem dX8_tries_115 : decode cX8_tries 115 = .ok (.aload_n 0, 1) := by decide +kernel
theorem dX8_tries_116 : decode cX8_tries 116 = .ok (.getfield 164, 3) := by decide +kernel
theorem dX8_tries_119 : decode cX8_tries 119 = .ok (.ifCond .eq 14, 3) := by decide +kernel
theorem dX8_tries_122 : decode cX8_tries 122 = .ok (.iload 4, 2) := by decide +kernel
theorem dX8_tries_124 : decode cX8_tries 124 = .ok (.aload_n 0, 1) := by decide +kernel
theorem dX8_tries_125 : decode cX8_tries 125 = .ok (.getfield 41, 3) := by decide +kernel
theorem dX8_tries_128 : decode cX8_tries 128 = .ok (.iconst 0, 1) := by decide +kernel
theorem dX8_tries_129 : decode cX8_tries 129 = .ok (.iaload, 1) := by decide +kernel
theorem dX8_tries_130 : decode cX8_tries 130 = .ok (.if_icmp .ge 7, 3) := by decide +kernel
theorem dX8_tries_133 : decode cX8_tries 133 = .ok (.iconst 1, 1) := by decide +kernel
theorem dX8_tries_134 : decode cX8_tries 134 = .ok (.goto 4, 3) := by decide +kernel
theorem dX8_tries_137 : decode cX8_tries 137 = .ok (.iconst 0, 1) := by decide +kernel
theorem dX8_tries_138 : decode cX8_tries 138 = .ok (.istore 7, 2) := by decide +kernel
theorem dX8_tries_140 : decode cX8_tries 140 = .ok (.iload 7, 2) := by decide +kernel
theorem dX8_tries_142 : decode cX8_tries 142 = .ok (.ifCond .ne 73, 3) := by decide +kernel
theorem dX8_tries_145 : decode cX8_tries 145 = .ok (.iload 4, 2) := by decide +kernel
theorem dX8_tries_147 : decode cX8_tries 147 = .ok (.aload_n 0, 1) := by decide +kernel
theorem dX8_tries_148 : decode cX8_tries 148 = .ok (.getfield 41, 3) := by decide +kernel
theorem dX8_tries_151 : decode cX8_tries 151 = .ok (.iconst 0, 1) := by decide +kernel
theorem dX8_tries_152 : decode cX8_tries 152 = .ok (.iaload, 1) := by decide +kernel
theorem dX8_tries_153 : decode cX8_tries 153 = .ok (.if_icmp .ne 62, 3) := by decide +kernel
theorem dX8_tries_156 : decode cX8_tries 156 = .ok (.iload 6, 2) := by decide +kernel
theorem dX8_tries_158 : decode cX8_tries 158 = .ok (.aload_n 0, 1) := by decide +kernel
theorem dX8_tries_159 : decode cX8_tries 159 = .ok (.getfield 41, 3) := by decide +kernel
theorem dX8_tries_162 : decode cX8_tries 162 = .ok (.iconst 1, 1) := by decide +kernel
theorem dX8_tries_163 : decode cX8_tries 163 = .ok (.iaload, 1) := by decide +kernel
theorem dX8_tries_164 : decode cX8_tries 164 = .ok (.if_icmp .lt 44, 3) := by decide +kernel
theorem dX8_tries_167 : decode cX8_tries 167 = .ok (.iload 6, 2) := by decide +kernel
theorem dX8_tries_169 : decode cX8_tries 169 = .ok (.aload_n 0, 1) := by decide +kernel
theorem dX8_tries_170 : decode cX8_tries 170 = .ok (.getfield 41, 3) := by decide +kernel
theorem dX8_tries_173 : decode cX8_tries 173 = .ok (.iconst 1, 1) := by decide +kernel
theorem dX8_tries_174 : decode cX8_tries 174 = .ok (.iaload, 1) := by decide +kernel
theorem dX8_tries_175 : decode cX8_tries 175 = .ok (.if_icmp .ne 37, 3) := by decide +kernel
theorem dX8_tries_178 : decode cX8_tries 178 = .ok (.iload_n 1, 1) := by decide +kernel
theorem dX8_tries_179 : decode cX8_tries 179 = .ok (.aload_n 0, 1) := by decide +kernel
theorem dX8_tries_180 : decode cX8_tries 180 = .ok (.getfield 41, 3) := by decide +kernel
theorem dX8_tries_183 : decode cX8_tries 183 = .ok (.iconst 2, 1) := by decide +kernel
theorem dX8_tries_184 : decode cX8_tries 184 = .ok (.iaload, 1) := by decide +kernel
theorem dX8_tries_185 : decode cX8_tries 185 = .ok (.if_icmp .lt 23, 3) := by decide +kernel
theorem dX8_tries_188 : decode cX8_tries 188 = .ok (.iload_n 1, 1) := by decide +kernel
theorem dX8_tries_189 : decode cX8_tries 189 = .ok (.aload_n 0, 1) := by decide +kernel
theorem dX8_tries_190 : decode cX8_tries 190 = .ok (.getfield 41, 3) := by decide +kernel
theorem dX8_tries_193 : decode cX8_tries 193 = .ok (.iconst 2, 1) := by decide +kernel
theorem dX8_tries_194 : decode cX8_tries 194 = .ok (.iaload, 1) := by decide +kernel
theorem dX8_tries_195 : decode cX8_tries 195 = .ok (.if_icmp .ne 17, 3) := by decide +kernel
theorem dX8_tries_198 : decode cX8_tries 198 = .ok (.iload_n 2, 1) := by decide +kernel
theorem dX8_tries_199 : decode cX8_tries 199 = .ok (.aload_n 0, 1) := by decide +kernel
theorem dX8_tries_200 : decode cX8_tries 200 = .ok (.getfield 41, 3) := by decide +kernel
theorem dX8_tries_203 : decode cX8_tries 203 = .ok (.iconst 3, 1) := by decide +kernel
theorem dX8_tries_204 : decode cX8_tries 204 = .ok (.iaload, 1) := by decide +kernel
theorem dX8_tries_205 : decode cX8_tries 205 = .ok (.if_icmp .ge 7, 3) := by decide +kernel
theorem dX8_tries_208 : decode cX8_tries 208 = .ok (.iconst 1, 1) := by decide +kernel
theorem dX8_tries_209 : decode cX8_tries 209 = .ok (.goto 4, 3) := by decide +kernel
theorem dX8_tries_212 : decode cX8_tries 212 = .ok (.iconst 0, 1) := by decide +kernel
theorem dX8_tries_213 : decode cX8_tries 213 = .ok (.istore 7, 2) := by decide +kernel
theorem dX8_tries_215 : decode cX8_tries 215 = .ok (.iload 7, 2) := by decide +kernel
theorem dX8_tries_217 : decode cX8_tries 217 = .ok (.ifCond .eq 72, 3) := by decide +kernel
theorem dX8_tries_220 : decode cX8_tries 220 = .ok (.aload_n 0, 1) := by decide +kernel
theorem dX8_tries_221 : decode cX8_tries 221 = .ok (.iconst 1, 1) := by decide +kernel
theorem dX8_tries_222 : decode cX8_tries 222 = .ok (.putfield 164, 3) := by decide +kernel
theorem dX8_tries_225 : decode cX8_tries 225 = .ok (.aload_n 0, 1) := by decide +kernel
theorem dX8_tries_226 : decode cX8_tries 226 = .ok (.getfield 41, 3) := by decide +kernel
theorem dX8_tries_229 : decode cX8_tries 229 = .ok (.iconst 0, 1) := by decide +kernel
theorem dX8_tries_230 : decode cX8_tries 230 = .ok (.iload 4, 2) := by decide +kernel
theorem dX8_tries_232 : decode cX8_tries 232 = .ok (.iastore, 1) := by decide +kernel
theorem dX8_tries_233 : decode cX8_tries 233 = .ok (.aload_n 0, 1) := by decide +kernel
theorem dX8_tries_234 : decode cX8_tries 234 = .ok (.getfield 41, 3) := by decide +kernel
theorem dX8_tries_237 : decode cX8_tries 237 = .ok (.iconst 1, 1) := by decide +kernel
theorem dX8_tries_238 : decode cX8_tries 238 = .ok (.iload 6, 2) := by decide +kernel
theorem dX8_tries_240 : decode cX8_tries 240 = .ok (.iastore, 1) := by decide +kernel
theorem dX8_tries_241 : decode cX8_tries 241 = .ok (.aload_n 0, 1) := by decide +kernel
theorem dX8_tries_242 : decode cX8_tries 242 = .ok (.getfield 41, 3) := by decide +kernel
theorem dX8_tries_245 : decode cX8_tries 245 = .ok (.iconst 2, 1) := by decide +kernel
theorem dX8_tries_246 : decode cX8_tries 246 = .ok (.iload_n 1, 1) := by decide +kernel
theorem dX8_tries_247 : decode cX8_tries 247 = .ok (.iastore, 1) := by decide +kernel
theorem dX8_tries_248 : decode cX8_tries 248 = .ok (.aload_n 0, 1) := by decide +kernel
theorem dX8_tries_249 : decode cX8_tries 249 = .ok (.getfield 41, 3) := by decide +kernel
theorem dX8_tries_252 : decode cX8_tries 252 = .ok (.iconst 3, 1) := by decide +kernel
theorem dX8_tries_253 : decode cX8_tries 253 = .ok (.iload_n 2, 1) := by decide +kernel
theorem dX8_tries_254 : decode cX8_tries 254 = .ok (.iastore, 1) := by decide +kernel
theorem dX8_tries_255 : decode cX8_tries 255 = .ok (.iconst 0, 1) := by decide +kernel
theorem dX8_tries_256 : decode cX8_tries 256 = .ok (.istore 8, 2) := by decide +kernel
theorem dX8_tries_258 : decode cX8_tries 258 = .ok (.iload 8, 2) := by decide +kernel
theorem dX8_tries_260 : decode cX8_tries 260 = .ok (.aload_n 0, 1) := by decide +kernel
theorem dX8_tries_261 : decode cX8_tries 261 = .ok (.getfield 7, 3) := by decide +kernel
theorem dX8_tries_264 : decode cX8_tries 264 = .ok (.iconst 3, 1) := by decide +kernel
theorem dX8_tries_265 : decode cX8_tries 265 = .ok (.iaload, 1) := by decide +kernel
theorem dX8_tries_266 : decode cX8_tries 266 = .ok (.if_icmp .ge 23, 3) := by decide +kernel
theorem dX8_tries_269 : decode cX8_tries 269 = .ok (.aload_n 0, 1) := by decide +kernel
theorem dX8_tries_270 : decode cX8_tries 270 = .ok (.getfield 38, 3) := by decide +kernel
theorem dX8_tries_273 : decode cX8_tries 273 = .ok (.iload 8, 2) := by decide +kernel
theorem dX8_tries_275 : decode cX8_tries 275 = .ok (.aload_n 0, 1) := by decide +kernel
theorem dX8_tries_276 : decode cX8_tries 276 = .ok (.getfield 35, 3) := by decide +kernel
theorem dX8_tries_279 : decode cX8_tries 279 = .ok (.iload 8, 2) := by decide +kernel
theorem dX8_tries_281 : decode cX8_tries 281 = .ok (.iaload, 1) := by decide +kernel
theorem dX8_tries_282 : decode cX8_tries 282 = .ok (.iastore, 1) := by decide +kernel
theorem dX8_tries_283 : decode cX8_tries 283 = .ok (.iinc 8 1, 3) := by decide +kernel
theorem dX8_tries_286 : decode cX8_tries 286 = .ok (.goto (-28), 3) := by decide +kernel
theorem dX8_tries_289 : decode cX8_tries 289 = .ok (.return_, 1) := by decide +kernel
theorem dX8_findsBest_0 : decode cX8_findsBest 0 = .ok (.aload_n 0, 1) := by decide +kernel
theorem dX8_findsBest_1 : decode cX8_findsBest 1 = .ok (.iconst 0, 1) := by decide +kernel
theorem dX8_findsBest_2 : decode cX8_findsBest 2 = .ok (.putfield 164, 3) := by decide +kernel
theorem dX8_findsBest_5 : decode cX8_findsBest 5 = .ok (.aload_n 0, 1) := by decide +kernel
theorem dX8_findsBest_6 : decode cX8_findsBest 6 = .ok (.invokevirtual 167, 3) := by decide +kernel
theorem dX8_findsBest_9 : decode cX8_findsBest 9 = .ok (.iconst 1, 1) := by decide +kernel
theorem dX8_findsBest_10 : decode cX8_findsBest 10 = .ok (.istore_n 1, 1) := by decide +kernel
theorem dX8_findsBest_11 : decode cX8_findsBest 11 = .ok (.iconst 0, 1) := by decide +kernel
theorem dX8_findsBest_12 : decode cX8_findsBest 12 = .ok (.istore_n 2, 1) := by decide +kernel
theorem dX8_findsBest_13 : decode cX8_findsBest 13 = .ok (.iload_n 2, 1) := by decide +kernel
theorem dX8_findsBest_14 : decode cX8_findsBest 14 = .ok (.aload_n 0, 1) := by decide +kernel
theorem dX8_findsBest_15 : decode cX8_findsBest 15 = .ok (.getfield 7, 3) := by decide +kernel
theorem dX8_findsBest_18 : decode cX8_findsBest 18 = .ok (.iconst 3, 1) := by decide +kernel
theorem dX8_findsBest_19 : decode cX8_findsBest 19 = .ok (.iaload, 1) := by decide +kernel
theorem dX8_findsBest_20 : decode cX8_findsBest 20 = .ok (.if_icmp .ge 18, 3) := by decide +kernel
theorem dX8_findsBest_23 : decode cX8_findsBest 23 = .ok (.iload_n 1, 1) := by decide +kernel
theorem dX8_findsBest_24 : decode cX8_findsBest 24 = .ok (.aload_n 0, 1) := by decide +kernel
theorem dX8_findsBest_25 : decode cX8_findsBest 25 = .ok (.getfield 7, 3) := by decide +kernel
theorem dX8_findsBest_28 : decode cX8_findsBest 28 = .ok (.iconst 3, 1) := by decide +kernel
theorem dX8_findsBest_29 : decode cX8_findsBest 29 = .ok (.iaload, 1) := by decide +kernel
theorem dX8_findsBest_30 : decode cX8_findsBest 30 = .ok (.imul, 1) := by decide +kernel
theorem dX8_findsBest_31 : decode cX8_findsBest 31 = .ok (.istore_n 1, 1) := by decide +kernel
theorem dX8_findsBest_32 : decode cX8_findsBest 32 = .ok (.iinc 2 1, 3) := by decide +kernel
theorem dX8_findsBest_35 : decode cX8_findsBest 35 = .ok (.goto (-22), 3) := by decide +kernel
theorem dX8_findsBest_38 : decode cX8_findsBest 38 = .ok (.iconst 0, 1) := by decide +kernel
theorem dX8_findsBest_39 : decode cX8_findsBest 39 = .ok (.istore_n 2, 1) := by decide +kernel
theorem dX8_findsBest_40 : decode cX8_findsBest 40 = .ok (.iload_n 2, 1) := by decide +kernel
theorem dX8_findsBest_41 : decode cX8_findsBest 41 = .ok (.iload_n 1, 1) := by decide +kernel
theorem dX8_findsBest_42 : decode cX8_findsBest 42 = .ok (.if_icmp .ge 77, 3) := by decide +kernel
theorem dX8_findsBest_45 : decode cX8_findsBest 45 = .ok (.aload_n 0, 1) := by decide +kernel
theorem dX8_findsBest_46 : decode cX8_findsBest 46 = .ok (.getfield 7, 3) := by decide +kernel
theorem dX8_findsBest_49 : decode cX8_findsBest 49 = .ok (.iconst 3, 1) := by decide +kernel
theorem dX8_findsBest_50 : decode cX8_findsBest 50 = .ok (.iaload, 1) := by decide +kernel
theorem dX8_findsBest_51 : decode cX8_findsBest 51 = .ok (.ifCond .le 68, 3) := by decide +kernel
theorem dX8_findsBest_54 : decode cX8_findsBest 54 = .ok (.aload_n 0, 1) := by decide +kernel
theorem dX8_findsBest_55 : decode cX8_findsBest 55 = .ok (.iload_n 2, 1) := by decide +kernel
theorem dX8_findsBest_56 : decode cX8_findsBest 56 = .ok (.invokevirtual 170, 3) := by decide +kernel
theorem dX8_findsBest_59 : decode cX8_findsBest 59 = .ok (.istore_n 3, 1) := by decide +kernel
theorem dX8_findsBest_60 : decode cX8_findsBest 60 = .ok (.aload_n 0, 1) := by decide +kernel
theorem dX8_findsBest_61 : decode cX8_findsBest 61 = .ok (.getfield 7, 3) := by decide +kernel
theorem dX8_findsBest_64 : decode cX8_findsBest 64 = .ok (.iconst 2, 1) := by decide +kernel
theorem dX8_findsBest_65 : decode cX8_findsBest 65 = .ok (.iaload, 1) := by decide +kernel
theorem dX8_findsBest_66 : decode cX8_findsBest 66 = .ok (.istore 4, 2) := by decide +kernel
theorem dX8_findsBest_68 : decode cX8_findsBest 68 = .ok (.iload 4, 2) := by decide +kernel
theorem dX8_findsBest_70 : decode cX8_findsBest 70 = .ok (.bipush 20, 2) := by decide +kernel
theorem dX8_findsBest_72 : decode cX8_findsBest 72 = .ok (.if_icmp .gt 41, 3) := by decide +kernel
theorem dX8_findsBest_75 : decode cX8_findsBest 75 = .ok (.iload_n 3, 1) := by decide +kernel
theorem dX8_findsBest_76 : decode cX8_findsBest 76 = .ok (.ifCond .eq 37, 3) := by decide +kernel
theorem dX8_findsBest_79 : decode cX8_findsBest 79 = .ok (.iconst 0, 1) := by decide +kernel
theorem dX8_findsBest_80 : decode cX8_findsBest 80 = .ok (.istore 5, 2) := by decide +kernel
theorem dX8_findsBest_82 : decode cX8_findsBest 82 = .ok (.iload 5, 2) := by decide +kernel
theorem dX8_findsBest_84 : decode cX8_findsBest 84 = .ok (.aload_n 0, 1) := by decide +kernel
theorem dX8_findsBest_85 : decode cX8_findsBest 85 = .ok (.getfield 7, 3) := by decide +kernel
theorem dX8_findsBest_88 : decode cX8_findsBest 88 = .ok (.iconst 0, 1) := by decide +kernel
theorem dX8_findsBest_89 : decode cX8_findsBest 89 = .ok (.iaload, 1) := by decide +kernel
theorem dX8_findsBest_90 : decode cX8_findsBest 90 = .ok (.if_icmp .ge 17, 3) := by decide +kernel
theorem dX8_findsBest_93 : decode cX8_findsBest 93 = .ok (.aload_n 0, 1) := by decide +kernel
theorem dX8_findsBest_94 : decode cX8_findsBest 94 = .ok (.iload 4, 2) := by decide +kernel
theorem dX8_findsBest_96 : decode cX8_findsBest 96 = .ok (.iload 5, 2) := by decide +kernel
theorem dX8_findsBest_98 : decode cX8_findsBest 98 = .ok (.invokevirtual 173, 3) := by decide +kernel
theorem dX8_findsBest_101 : decode cX8_findsBest 101 = .ok (.iinc 5 1, 3) := by decide +kernel
theorem dX8_findsBest_104 : decode cX8_findsBest 104 = .ok (.goto (-22), 3) := by decide +kernel
theorem dX8_findsBest_107 : decode cX8_findsBest 107 = .ok (.iinc 4 1, 3) := by decide +kernel
theorem dX8_findsBest_110 : decode cX8_findsBest 110 = .ok (.goto (-42), 3) := by decide +kernel
theorem dX8_findsBest_113 : decode cX8_findsBest 113 = .ok (.iinc 2 1, 3) := by decide +kernel
theorem dX8_findsBest_116 : decode cX8_findsBest 116 = .ok (.goto (-76), 3) := by decide +kernel
theorem dX8_findsBest_119 : decode cX8_findsBest 119 = .ok (.return_, 1) := by decide +kernel
theorem dX8_best_0 : decode cX8_best 0 = .ok (.iload_n 1, 1) := by decide +kernel
theorem dX8_best_1 : decode cX8_best 1 = .ok (.ifCond .ge 5, 3) := by decide +kernel
theorem dX8_best_4 : decode cX8_best 4 = .ok (.iconst (-1), 1) := by decide +kernel
theorem dX8_best_5 : decode cX8_best 5 = .ok (.ireturn, 1) := by decide +kernel
theorem dX8_best_6 : decode cX8_best 6 = .ok (.aload_n 0, 1) := by decide +kernel
theorem dX8_best_7 : decode cX8_best 7 = .ok (.invokevirtual 177, 3) := by decide +kernel
theorem dX8_best_10 : decode cX8_best 10 = .ok (.aload_n 0, 1) := by decide +kernel
theorem dX8_best_11 : decode cX8_best 11 = .ok (.getfield 164, 3) := by decide +kernel
theorem dX8_best_14 : decode cX8_best 14 = .ok (.ifCond .ne 6, 3) := by decide +kernel
theorem dX8_best_17 : decode cX8_best 17 = .ok (.bipush (-9), 2) := by decide +kernel
theorem dX8_best_19 : decode cX8_best 19 = .ok (.ireturn, 1) := by decide +kernel
theorem dX8_best_20 : decode cX8_best 20 = .ok (.iload_n 1, 1) := by decide +kernel
theorem dX8_best_21 : decode cX8_best 21 = .ok (.iconst 4, 1) := by decide +kernel
theorem dX8_best_22 : decode cX8_best 22 = .ok (.if_icmp .ge 12, 3) := by decide +kernel
theorem dX8_best_25 : decode cX8_best 25 = .ok (.aload_n 0, 1) := by decide +kernel
theorem dX8_best_26 : decode cX8_best 26 = .ok (.getfield 41, 3) := by decide +kernel
theorem dX8_best_29 : decode cX8_best 29 = .ok (.iload_n 1, 1) := by decide +kernel
theorem dX8_best_30 : decode cX8_best 30 = .ok (.iaload, 1) := by decide +kernel
theorem dX8_best_31 : decode cX8_best 31 = .ok (.goto 28, 3) := by decide +kernel
theorem dX8_best_34 : decode cX8_best 34 = .ok (.iload_n 1, 1) := by decide +kernel
theorem dX8_best_35 : decode cX8_best 35 = .ok (.iconst 4, 1) := by decide +kernel
theorem dX8_best_36 : decode cX8_best 36 = .ok (.isub, 1) := by decide +kernel
theorem dX8_best_37 : decode cX8_best 37 = .ok (.aload_n 0, 1) := by decide +kernel
theorem dX8_best_38 : decode cX8_best 38 = .ok (.getfield 7, 3) := by decide +kernel
theorem dX8_best_41 : decode cX8_best 41 = .ok (.iconst 3, 1) := by decide +kernel
theorem dX8_best_42 : decode cX8_best 42 = .ok (.iaload, 1) := by decide +kernel
theorem dX8_best_43 : decode cX8_best 43 = .ok (.if_icmp .ge 14, 3) := by decide +kernel
theorem dX8_best_46 : decode cX8_best 46 = .ok (.aload_n 0, 1) := by decide +kernel
theorem dX8_best_47 : decode cX8_best 47 = .ok (.getfield 38, 3) := by decide +kernel
theorem dX8_best_50 : decode cX8_best 50 = .ok (.iload_n 1, 1) := by decide +kernel
theorem dX8_best_51 : decode cX8_best 51 = .ok (.iconst 4, 1) := by decide +kernel
theorem dX8_best_52 : decode cX8_best 52 = .ok (.isub, 1) := by decide +kernel
theorem dX8_best_53 : decode cX8_best 53 = .ok (.iaload, 1) := by decide +kernel
theorem dX8_best_54 : decode cX8_best 54 = .ok (.goto 5, 3) := by decide +kernel
theorem dX8_best_57 : decode cX8_best 57 = .ok (.bipush (-9), 2) := by decide +kernel
theorem dX8_best_59 : decode cX8_best 59 = .ok (.ireturn, 1) := by decide +kernel
theorem dX8_tellPlaces_0 : decode cX8_tellPlaces 0 = .ok (.iconst 0, 1) := by decide +kernel
theorem dX8_tellPlaces_1 : decode cX8_tellPlaces 1 = .ok (.istore_n 3, 1) := by decide +kernel
theorem dX8_tellPlaces_2 : decode cX8_tellPlaces 2 = .ok (.bipush (-9), 2) := by decide +kernel
theorem dX8_tellPlaces_4 : decode cX8_tellPlaces 4 = .ok (.istore 4, 2) := by decide +kernel
theorem dX8_tellPlaces_6 : decode cX8_tellPlaces 6 = .ok (.bipush (-9), 2) := by decide +kernel
theorem dX8_tellPlaces_8 : decode cX8_tellPlaces 8 = .ok (.istore 5, 2) := by decide +kernel
theorem dX8_tellPlaces_10 : decode cX8_tellPlaces 10 = .ok (.bipush (-9), 2) := by decide +kernel
theorem dX8_tellPlaces_12 : decode cX8_tellPlaces 12 = .ok (.istore 6, 2) := by decide +kernel
theorem dX8_tellPlaces_14 : decode cX8_tellPlaces 14 = .ok (.aload_n 0, 1) := by decide +kernel
theorem dX8_tellPlaces_15 : decode cX8_tellPlaces 15 = .ok (.invokevirtual 158, 3) := by decide +kernel
theorem dX8_tellPlaces_18 : decode cX8_tellPlaces 18 = .ok (.istore 7, 2) := by decide +kernel
theorem dX8_tellPlaces_20 : decode cX8_tellPlaces 20 = .ok (.bipush 39, 2) := by decide +kernel
theorem dX8_tellPlaces_22 : decode cX8_tellPlaces 22 = .ok (.istore 8, 2) := by decide +kernel
theorem dX8_tellPlaces_24 : decode cX8_tellPlaces 24 = .ok (.iload 8, 2) := by decide +kernel
theorem dX8_tellPlaces_26 : decode cX8_tellPlaces 26 = .ok (.ifCond .lt 112, 3) := by decide +kernel
theorem dX8_tellPlaces_29 : decode cX8_tellPlaces 29 = .ok (.aload_n 0, 1) := by decide +kernel
theorem dX8_tellPlaces_30 : decode cX8_tellPlaces 30 = .ok (.iload_n 1, 1) := by decide +kernel
theorem dX8_tellPlaces_31 : decode cX8_tellPlaces 31 = .ok (.iload 8, 2) := by decide +kernel
theorem dX8_tellPlaces_33 : decode cX8_tellPlaces 33 = .ok (.invokevirtual 139, 3) := by decide +kernel
theorem dX8_tellPlaces_36 : decode cX8_tellPlaces 36 = .ok (.ifCond .eq 96, 3) := by decide +kernel
theorem dX8_tellPlaces_39 : decode cX8_tellPlaces 39 = .ok (.aload_n 0, 1) := by decide +kernel
theorem dX8_tellPlaces_40 : decode cX8_tellPlaces 40 = .ok (.iload_n 1, 1) := by decide +kernel
theorem dX8_tellPlaces_41 : decode cX8_tellPlaces 41 = .ok (.iload 8, 2) := by decide +kernel
theorem dX8_tellPlaces_43 : decode cX8_tellPlaces 43 = .ok (.invokevirtual 142, 3) := by decide +kernel
theorem dX8_tellPlaces_46 : decode cX8_tellPlaces 46 = .ok (.ifCond .eq 86, 3) := by decide +kernel
theorem dX8_tellPlaces_49 : decode cX8_tellPlaces 49 = .ok (.iinc 3 1, 3) := by decide +kernel
theorem dX8_tellPlaces_52 : decode cX8_tellPlaces 52 = .ok (.iload 8, 2) := by decide +kernel
theorem dX8_tellPlaces_54 : decode cX8_tellPlaces 54 = .ok (.istore 4, 2) := by decide +kernel
theorem dX8_tellPlaces_56 : decode cX8_tellPlaces 56 = .ok (.aload_n 0, 1) := by decide +kernel
theorem dX8_tellPlaces_57 : decode cX8_tellPlaces 57 = .ok (.iload_n 1, 1) := by decide +kernel
theorem dX8_tellPlaces_58 : decode cX8_tellPlaces 58 = .ok (.iload 8, 2) := by decide +kernel
theorem dX8_tellPlaces_60 : decode cX8_tellPlaces 60 = .ok (.invokevirtual 145, 3) := by decide +kernel
theorem dX8_tellPlaces_63 : decode cX8_tellPlaces 63 = .ok (.ifCond .eq 8, 3) := by decide +kernel
theorem dX8_tellPlaces_66 : decode cX8_tellPlaces 66 = .ok (.iload 8, 2) := by decide +kernel
theorem dX8_tellPlaces_68 : decode cX8_tellPlaces 68 = .ok (.goto 5, 3) := by decide +kernel
theorem dX8_tellPlaces_71 : decode cX8_tellPlaces 71 = .ok (.iload 5, 2) := by decide +kernel
theorem dX8_tellPlaces_73 : decode cX8_tellPlaces 73 = .ok (.istore 5, 2) := by decide +kernel
theorem dX8_tellPlaces_75 : decode cX8_tellPlaces 75 = .ok (.iload 6, 2) := by decide +kernel
theorem dX8_tellPlaces_77 : decode cX8_tellPlaces 77 = .ok (.bipush (-9), 2) := by decide +kernel
theorem dX8_tellPlaces_79 : decode cX8_tellPlaces 79 = .ok (.if_icmp .eq 32, 3) := by decide +kernel
theorem dX8_tellPlaces_82 : decode cX8_tellPlaces 82 = .ok (.iload 7, 2) := by decide +kernel
theorem dX8_tellPlaces_84 : decode cX8_tellPlaces 84 = .ok (.aload_n 0, 1) := by decide +kernel
theorem dX8_tellPlaces_85 : decode cX8_tellPlaces 85 = .ok (.iload_n 1, 1) := by decide +kernel
theorem dX8_tellPlaces_86 : decode cX8_tellPlaces 86 = .ok (.iload 8, 2) := by decide +kernel
theorem dX8_tellPlaces_88 : decode cX8_tellPlaces 88 = .ok (.invokevirtual 155, 3) := by decide +kernel
theorem dX8_tellPlaces_91 : decode cX8_tellPlaces 91 = .ok (.iadd, 1) := by decide +kernel
theorem dX8_tellPlaces_92 : decode cX8_tellPlaces 92 = .ok (.invokestatic 161, 3) := by decide +kernel
theorem dX8_tellPlaces_95 : decode cX8_tellPlaces 95 = .ok (.iload 7, 2) := by decide +kernel
theorem dX8_tellPlaces_97 : decode cX8_tellPlaces 97 = .ok (.aload_n 0, 1) := by decide +kernel
theorem dX8_tellPlaces_98 : decode cX8_tellPlaces 98 = .ok (.iload_n 1, 1) := by decide +kernel
theorem dX8_tellPlaces_99 : decode cX8_tellPlaces 99 = .ok (.iload 6, 2) := by decide +kernel
theorem dX8_tellPlaces_101 : decode cX8_tellPlaces 101 = .ok (.invokevirtual 155, 3) := by decide +kernel
theorem dX8_tellPlaces_104 : decode cX8_tellPlaces 104 = .ok (.iadd, 1) := by decide +kernel
theorem dX8_tellPlaces_105 : decode cX8_tellPlaces 105 = .ok (.invokestatic 161, 3) := by decide +kernel
theorem dX8_tellPlaces_108 : decode cX8_tellPlaces 108 = .ok (.if_icmp .gt 7, 3) := by decide +kernel
theorem dX8_tellPlaces_111 : decode cX8_tellPlaces 111 = .ok (.iconst 1, 1) := by decide +kernel
theorem dX8_tellPlaces_112 : decode cX8_tellPlaces 112 = .ok (.goto 4, 3) := by decide +kernel
theorem dX8_tellPlaces_115 : decode cX8_tellPlaces 115 = .ok (.iconst 0, 1) := by decide +kernel
theorem dX8_tellPlaces_116 : decode cX8_tellPlaces 116 = .ok (.istore 9, 2) := by decide +kernel
theorem dX8_tellPlaces_118 : decode cX8_tellPlaces 118 = .ok (.iload 9, 2) := by decide +kernel
theorem dX8_tellPlaces_120 : decode cX8_tellPlaces 120 = .ok (.ifCond .eq 8, 3) := by decide +kernel
theorem dX8_tellPlaces_123 : decode cX8_tellPlaces 123 = .ok (.iload 8, 2) := by decide +kernel
theorem dX8_tellPlaces_125 : decode cX8_tellPlaces 125 = .ok (.goto 5, 3) := by decide +kernel
theorem dX8_tellPlaces_128 : decode cX8_tellPlaces 128 = .ok (.iload 6, 2) := by decide +kernel
theorem dX8_tellPlaces_130 : decode cX8_tellPlaces 130 = .ok (.istore 6, 2) := by decide +kernel
theorem dX8_tellPlaces_132 : decode cX8_tellPlaces 132 = .ok (.iinc 8 (-1), 3) := by decide +kernel
theorem dX8_tellPlaces_135 : decode cX8_tellPlaces 135 = .ok (.goto (-111), 3) := by decide +kernel
theorem dX8_tellPlaces_138 : decode cX8_tellPlaces 138 = .ok (.iload_n 2, 1) := by decide +kernel
theorem dX8_tellPlaces_139 : decode cX8_tellPlaces 139 = .ok (.ifCond .ne 7, 3) := by decide +kernel
theorem dX8_tellPlaces_142 : decode cX8_tellPlaces 142 = .ok (.iload_n 3, 1) := by decide +kernel
theorem dX8_tellPlaces_143 : decode cX8_tellPlaces 143 = .ok (.goto 25, 3) := by decide +kernel
theorem dX8_tellPlaces_146 : decode cX8_tellPlaces 146 = .ok (.iload_n 2, 1) := by decide +kernel
theorem dX8_tellPlaces_147 : decode cX8_tellPlaces 147 = .ok (.iconst 1, 1) := by decide +kernel
theorem dX8_tellPlaces_148 : decode cX8_tellPlaces 148 = .ok (.if_icmp .ne 8, 3) := by decide +kernel
theorem dX8_tellPlaces_151 : decode cX8_tellPlaces 151 = .ok (.iload 4, 2) := by decide +kernel
theorem dX8_tellPlaces_153 : decode cX8_tellPlaces 153 = .ok (.goto 15, 3) := by decide +kernel
theorem dX8_tellPlaces_156 : decode cX8_tellPlaces 156 = .ok (.iload_n 2, 1) := by decide +kernel
theorem dX8_tellPlaces_157 : decode cX8_tellPlaces 157 = .ok (.iconst 2, 1) := by decide +kernel
theorem dX8_tellPlaces_158 : decode cX8_tellPlaces 158 = .ok (.if_icmp .ne 8, 3) := by decide +kernel
theorem dX8_tellPlaces_161 : decode cX8_tellPlaces 161 = .ok (.iload 5, 2) := by decide +kernel
theorem dX8_tellPlaces_163 : decode cX8_tellPlaces 163 = .ok (.goto 5, 3) := by decide +kernel
theorem dX8_tellPlaces_166 : decode cX8_tellPlaces 166 = .ok (.iload 6, 2) := by decide +kernel
theorem dX8_tellPlaces_168 : decode cX8_tellPlaces 168 = .ok (.ireturn, 1) := by decide +kernel
theorem dX8_places_0 : decode cX8_places 0 = .ok (.aload_n 0, 1) := by decide +kernel
theorem dX8_places_1 : decode cX8_places 1 = .ok (.iload_n 1, 1) := by decide +kernel
theorem dX8_places_2 : decode cX8_places 2 = .ok (.invokevirtual 136, 3) := by decide +kernel
theorem dX8_places_5 : decode cX8_places 5 = .ok (.ifCond .eq 12, 3) := by decide +kernel
theorem dX8_places_8 : decode cX8_places 8 = .ok (.iload_n 2, 1) := by decide +kernel
theorem dX8_places_9 : decode cX8_places 9 = .ok (.iconst 0, 1) := by decide +kernel
theorem dX8_places_10 : decode cX8_places 10 = .ok (.iconst 3, 1) := by decide +kernel
theorem dX8_places_11 : decode cX8_places 11 = .ok (.invokestatic 67, 3) := by decide +kernel
theorem dX8_places_14 : decode cX8_places 14 = .ok (.ifCond .ne 5, 3) := by decide +kernel
theorem dX8_places_17 : decode cX8_places 17 = .ok (.iconst (-1), 1) := by decide +kernel
theorem dX8_places_18 : decode cX8_places 18 = .ok (.ireturn, 1) := by decide +kernel
theorem dX8_places_19 : decode cX8_places 19 = .ok (.aload_n 0, 1) := by decide +kernel
theorem dX8_places_20 : decode cX8_places 20 = .ok (.iload_n 1, 1) := by decide +kernel
theorem dX8_places_21 : decode cX8_places 21 = .ok (.invokevirtual 122, 3) := by decide +kernel
theorem dX8_places_24 : decode cX8_places 24 = .ok (.ifCond .eq 8, 3) := by decide +kernel
theorem dX8_places_27 : decode cX8_places 27 = .ok (.bipush (-2), 2) := by decide +kernel
theorem dX8_places_29 : decode cX8_places 29 = .ok (.goto 9, 3) := by decide +kernel
theorem dX8_places_32 : decode cX8_places 32 = .ok (.aload_n 0, 1) := by decide +kernel
theorem dX8_places_33 : decode cX8_places 33 = .ok (.iload_n 1, 1) := by decide +kernel
theorem dX8_places_34 : decode cX8_places 34 = .ok (.iload_n 2, 1) := by decide +kernel
theorem dX8_places_35 : decode cX8_places 35 = .ok (.invokevirtual 180, 3) := by decide +kernel
theorem dX8_places_38 : decode cX8_places 38 = .ok (.ireturn, 1) := by decide +kernel
theorem dX8_reachOf_0 : decode cX8_reachOf 0 = .ok (.sipush 1000, 3) := by decide +kernel
theorem dX8_reachOf_3 : decode cX8_reachOf 3 = .ok (.istore_n 2, 1) := by decide +kernel
theorem dX8_reachOf_4 : decode cX8_reachOf 4 = .ok (.iconst 0, 1) := by decide +kernel
theorem dX8_reachOf_5 : decode cX8_reachOf 5 = .ok (.istore_n 3, 1) := by decide +kernel
theorem dX8_reachOf_6 : decode cX8_reachOf 6 = .ok (.iload_n 3, 1) := by decide +kernel
theorem dX8_reachOf_7 : decode cX8_reachOf 7 = .ok (.aload_n 0, 1) := by decide +kernel
theorem dX8_reachOf_8 : decode cX8_reachOf 8 = .ok (.getfield 7, 3) := by decide +kernel
theorem dX8_reachOf_11 : decode cX8_reachOf 11 = .ok (.iconst 3, 1) := by decide +kernel
theorem dX8_reachOf_12 : decode cX8_reachOf 12 = .ok (.iaload, 1) := by decide +kernel
theorem dX8_reachOf_13 : decode cX8_reachOf 13 = .ok (.if_icmp .ge 118, 3) := by decide +kernel
theorem dX8_reachOf_16 : decode cX8_reachOf 16 = .ok (.iload_n 1, 1) := by decide +kernel
theorem dX8_reachOf_17 : decode cX8_reachOf 17 = .ok (.iconst 1, 1) := by decide +kernel
theorem dX8_reachOf_18 : decode cX8_reachOf 18 = .ok (.iload_n 3, 1) := by decide +kernel
theorem dX8_reachOf_19 : decode cX8_reachOf 19 = .ok (.ishl, 1) := by decide +kernel
theorem dX8_reachOf_20 : decode cX8_reachOf 20 = .ok (.iconst (-1), 1) := by decide +kernel
theorem dX8_reachOf_21 : decode cX8_reachOf 21 = .ok (.ixor, 1) := by decide +kernel
theorem dX8_reachOf_22 : decode cX8_reachOf 22 = .ok (.iand, 1) := by decide +kernel
theorem dX8_reachOf_23 : decode cX8_reachOf 23 = .ok (.istore 4, 2) := by decide +kernel
theorem dX8_reachOf_25 : decode cX8_reachOf 25 = .ok (.iload_n 1, 1) := by decide +kernel
theorem dX8_reachOf_26 : decode cX8_reachOf 26 = .ok (.iload_n 3, 1) := by decide +kernel
theorem dX8_reachOf_27 : decode cX8_reachOf 27 = .ok (.invokestatic 183, 3) := by decide +kernel
theorem dX8_reachOf_30 : decode cX8_reachOf 30 = .ok (.ifCond .eq 95, 3) := by decide +kernel
theorem dX8_reachOf_33 : decode cX8_reachOf 33 = .ok (.aload_n 0, 1) := by decide +kernel
theorem dX8_reachOf_34 : decode cX8_reachOf 34 = .ok (.getfield 50, 3) := by decide +kernel
theorem dX8_reachOf_37 : decode cX8_reachOf 37 = .ok (.iload 4, 2) := by decide +kernel
theorem dX8_reachOf_39 : decode cX8_reachOf 39 = .ok (.iaload, 1) := by decide +kernel
theorem dX8_reachOf_40 : decode cX8_reachOf 40 = .ok (.sipush 1000, 3) := by decide +kernel
theorem dX8_reachOf_43 : decode cX8_reachOf 43 = .ok (.if_icmp .ge 82, 3) := by decide +kernel
theorem dX8_reachOf_46 : decode cX8_reachOf 46 = .ok (.iload 4, 2) := by decide +kernel
theorem dX8_reachOf_48 : decode cX8_reachOf 48 = .ok (.ifCond .ne 7, 3) := by decide +kernel
theorem dX8_reachOf_51 : decode cX8_reachOf 51 = .ok (.iconst 0, 1) := by decide +kernel
theorem dX8_reachOf_52 : decode cX8_reachOf 52 = .ok (.goto 17, 3) := by decide +kernel
theorem dX8_reachOf_55 : decode cX8_reachOf 55 = .ok (.aload_n 0, 1) := by decide +kernel
theorem dX8_reachOf_56 : decode cX8_reachOf 56 = .ok (.getfield 50, 3) := by decide +kernel
theorem dX8_reachOf_59 : decode cX8_reachOf 59 = .ok (.iload 4, 2) := by decide +kernel
theorem dX8_reachOf_61 : decode cX8_reachOf 61 = .ok (.iaload, 1) := by decide +kernel
theorem dX8_reachOf_62 : decode cX8_reachOf 62 = .ok (.aload_n 0, 1) := by decide +kernel
theorem dX8_reachOf_63 : decode cX8_reachOf 63 = .ok (.getfield 7, 3) := by decide +kernel
theorem dX8_reachOf_66 : decode cX8_reachOf 66 = .ok (.iconst 2, 1) := by decide +kernel
theorem dX8_reachOf_67 : decode cX8_reachOf 67 = .ok (.iaload, 1) := by decide +kernel
theorem dX8_reachOf_68 : decode cX8_reachOf 68 = .ok (.iadd, 1) := by decide +kernel
theorem dX8_reachOf_69 : decode cX8_reachOf 69 = .ok (.istore 5, 2) := by decide +kernel
theorem dX8_reachOf_71 : decode cX8_reachOf 71 = .ok (.iload 5, 2) := by decide +kernel
theorem dX8_reachOf_73 : decode cX8_reachOf 73 = .ok (.bipush 39, 2) := by decide +kernel
theorem dX8_reachOf_75 : decode cX8_reachOf 75 = .ok (.if_icmp .gt 19, 3) := by decide +kernel
theorem dX8_reachOf_78 : decode cX8_reachOf 78 = .ok (.aload_n 0, 1) := by decide +kernel
theorem dX8_reachOf_79 : decode cX8_reachOf 79 = .ok (.iload_n 3, 1) := by decide +kernel
theorem dX8_reachOf_80 : decode cX8_reachOf 80 = .ok (.iload 5, 2) := by decide +kernel
theorem dX8_reachOf_82 : decode cX8_reachOf 82 = .ok (.invokevirtual 139, 3) := by decide +kernel
theorem dX8_reachOf_85 : decode cX8_reachOf 85 = .ok (.ifCond .ne 9, 3) := by decide +kernel
theorem dX8_reachOf_88 : decode cX8_reachOf 88 = .ok (.iinc 5 1, 3) := by decide +kernel
theorem dX8_reachOf_91 : decode cX8_reachOf 91 = .ok (.goto (-20), 3) := by decide +kernel
theorem dX8_reachOf_94 : decode cX8_reachOf 94 = .ok (.iload 5, 2) := by decide +kernel
theorem dX8_reachOf_96 : decode cX8_reachOf 96 = .ok (.aload_n 0, 1) := by decide +kernel
theorem dX8_reachOf_97 : decode cX8_reachOf 97 = .ok (.iload_n 3, 1) := by decide +kernel
theorem dX8_reachOf_98 : decode cX8_reachOf 98 = .ok (.iconst 0, 1) := by decide +kernel
theorem dX8_reachOf_99 : decode cX8_reachOf 99 = .ok (.invokevirtual 118, 3) := by decide +kernel
theorem dX8_reachOf_102 : decode cX8_reachOf 102 = .ok (.iadd, 1) := by decide +kernel
theorem dX8_reachOf_103 : decode cX8_reachOf 103 = .ok (.istore 6, 2) := by decide +kernel
theorem dX8_reachOf_105 : decode cX8_reachOf 105 = .ok (.iload 5, 2) := by decide +kernel
theorem dX8_reachOf_107 : decode cX8_reachOf 107 = .ok (.bipush 39, 2) := by decide +kernel
theorem dX8_reachOf_109 : decode cX8_reachOf 109 = .ok (.if_icmp .gt 14, 3) := by decide +kernel
theorem dX8_reachOf_112 : decode cX8_reachOf 112 = .ok (.iload 6, 2) := by decide +kernel
theorem dX8_reachOf_114 : decode cX8_reachOf 114 = .ok (.iload_n 2, 1) := by decide +kernel
theorem dX8_reachOf_115 : decode cX8_reachOf 115 = .ok (.if_icmp .ge 8, 3) := by decide +kernel
theorem dX8_reachOf_118 : decode cX8_reachOf 118 = .ok (.iload 6, 2) := by decide +kernel
theorem dX8_reachOf_120 : decode cX8_reachOf 120 = .ok (.goto 4, 3) := by decide +kernel
theorem dX8_reachOf_123 : decode cX8_reachOf 123 = .ok (.iload_n 2, 1) := by decide +kernel
theorem dX8_reachOf_124 : decode cX8_reachOf 124 = .ok (.istore_n 2, 1) := by decide +kernel
theorem dX8_reachOf_125 : decode cX8_reachOf 125 = .ok (.iinc 3 1, 3) := by decide +kernel
theorem dX8_reachOf_128 : decode cX8_reachOf 128 = .ok (.goto (-122), 3) := by decide +kernel
theorem dX8_reachOf_131 : decode cX8_reachOf 131 = .ok (.iload_n 2, 1) := by decide +kernel
theorem dX8_reachOf_132 : decode cX8_reachOf 132 = .ok (.ireturn, 1) := by decide +kernel
theorem dX8_most_0 : decode cX8_most 0 = .ok (.iconst 0, 1) := by decide +kernel
theorem dX8_most_1 : decode cX8_most 1 = .ok (.istore_n 1, 1) := by decide +kernel
theorem dX8_most_2 : decode cX8_most 2 = .ok (.iconst 0, 1) := by decide +kernel
theorem dX8_most_3 : decode cX8_most 3 = .ok (.istore_n 2, 1) := by decide +kernel
theorem dX8_most_4 : decode cX8_most 4 = .ok (.iconst 0, 1) := by decide +kernel
theorem dX8_most_5 : decode cX8_most 5 = .ok (.istore_n 3, 1) := by decide +kernel
theorem dX8_most_6 : decode cX8_most 6 = .ok (.iconst 1, 1) := by decide +kernel
theorem dX8_most_7 : decode cX8_most 7 = .ok (.istore 4, 2) := by decide +kernel
theorem dX8_most_9 : decode cX8_most 9 = .ok (.iload 4, 2) := by decide +kernel
theorem dX8_most_11 : decode cX8_most 11 = .ok (.iconst 1, 1) := by decide +kernel
theorem dX8_most_12 : decode cX8_most 12 = .ok (.aload_n 0, 1) := by decide +kernel
theorem dX8_most_13 : decode cX8_most 13 = .ok (.getfield 7, 3) := by decide +kernel
theorem dX8_most_16 : decode cX8_most 16 = .ok (.iconst 3, 1) := by decide +kernel
theorem dX8_most_17 : decode cX8_most 17 = .ok (.iaload, 1) := by decide +kernel
theorem dX8_most_18 : decode cX8_most 18 = .ok (.ishl, 1) := by decide +kernel
theorem dX8_most_19 : decode cX8_most 19 = .ok (.if_icmp .ge 126, 3) := by decide +kernel
theorem dX8_most_22 : decode cX8_most 22 = .ok (.aload_n 0, 1) := by decide +kernel
theorem dX8_most_23 : decode cX8_most 23 = .ok (.getfield 50, 3) := by decide +kernel
theorem dX8_most_26 : decode cX8_most 26 = .ok (.iload 4, 2) := by decide +kernel
theorem dX8_most_28 : decode cX8_most 28 = .ok (.aload_n 0, 1) := by decide +kernel
theorem dX8_most_29 : decode cX8_most 29 = .ok (.iload 4, 2) := by decide +kernel
theorem dX8_most_31 : decode cX8_most 31 = .ok (.invokevirtual 186, 3) := by decide +kernel
theorem dX8_most_34 : decode cX8_most 34 = .ok (.iastore, 1) := by decide +kernel
theorem dX8_most_35 : decode cX8_most 35 = .ok (.iconst 0, 1) := by decide +kernel
theorem dX8_most_36 : decode cX8_most 36 = .ok (.istore 5, 2) := by decide +kernel
theorem dX8_most_38 : decode cX8_most 38 = .ok (.iconst 0, 1) := by decide +kernel
theorem dX8_most_39 : decode cX8_most 39 = .ok (.istore 6, 2) := by decide +kernel
theorem dX8_most_41 : decode cX8_most 41 = .ok (.iconst 0, 1) := by decide +kernel
theorem dX8_most_42 : decode cX8_most 42 = .ok (.istore 7, 2) := by decide +kernel
theorem dX8_most_44 : decode cX8_most 44 = .ok (.iload 7, 2) := by decide +kernel
theorem dX8_most_46 : decode cX8_most 46 = .ok (.aload_n 0, 1) := by decide +kernel
theorem dX8_most_47 : decode cX8_most 47 = .ok (.getfield 7, 3) := by decide +kernel
theorem dX8_most_50 : decode cX8_most 50 = .ok (.iconst 3, 1) := by decide +kernel
theorem dX8_most_51 : decode cX8_most 51 = .ok (.iaload, 1) := by decide +kernel
theorem dX8_most_52 : decode cX8_most 52 = .ok (.if_icmp .ge 47, 3) := by decide +kernel
theorem dX8_most_55 : decode cX8_most 55 = .ok (.iload 5, 2) := by decide +kernel
theorem dX8_most_57 : decode cX8_most 57 = .ok (.iload 4, 2) := by decide +kernel
theorem dX8_most_59 : decode cX8_most 59 = .ok (.iload 7, 2) := by decide +kernel
theorem dX8_most_61 : decode cX8_most 61 = .ok (.ishr, 1) := by decide +kernel
theorem dX8_most_62 : decode cX8_most 62 = .ok (.iconst 1, 1) := by decide +kernel
theorem dX8_most_63 : decode cX8_most 63 = .ok (.iand, 1) := by decide +kernel
theorem dX8_most_64 : decode cX8_most 64 = .ok (.iadd, 1) := by decide +kernel
theorem dX8_most_65 : decode cX8_most 65 = .ok (.istore 5, 2) := by decide +kernel
theorem dX8_most_67 : decode cX8_most 67 = .ok (.iload 6, 2) := by decide +kernel
theorem dX8_most_69 : decode cX8_most 69 = .ok (.iload 4, 2) := by decide +kernel
theorem dX8_most_71 : decode cX8_most 71 = .ok (.iload 7, 2) := by decide +kernel
theorem dX8_most_73 : decode cX8_most 73 = .ok (.invokestatic 183, 3) := by decide +kernel
theorem dX8_most_76 : decode cX8_most 76 = .ok (.ifCond .eq 13, 3) := by decide +kernel
theorem dX8_most_79 : decode cX8_most 79 = .ok (.aload_n 0, 1) := by decide +kernel
theorem dX8_most_80 : decode cX8_most 80 = .ok (.iload 7, 2) := by decide +kernel
theorem dX8_most_82 : decode cX8_most 82 = .ok (.iconst 3, 1) := by decide +kernel
theorem dX8_most_83 : decode cX8_most 83 = .ok (.invokevirtual 118, 3) := by decide +kernel
theorem dX8_most_86 : decode cX8_most 86 = .ok (.goto 4, 3) := by decide +kernel
theorem dX8_most_89 : decode cX8_most 89 = .ok (.iconst 0, 1) := by decide +kernel
theorem dX8_most_90 : decode cX8_most 90 = .ok (.iadd, 1) := by decide +kernel
theorem dX8_most_91 : decode cX8_most 91 = .ok (.istore 6, 2) := by decide +kernel
theorem dX8_most_93 : decode cX8_most 93 = .ok (.iinc 7 1, 3) := by decide +kernel
theorem dX8_most_96 : decode cX8_most 96 = .ok (.goto (-52), 3) := by decide +kernel
theorem dX8_most_99 : decode cX8_most 99 = .ok (.aload_n 0, 1) := by decide +kernel
theorem dX8_most_100 : decode cX8_most 100 = .ok (.getfield 50, 3) := by decide +kernel
theorem dX8_most_103 : decode cX8_most 103 = .ok (.iload 4, 2) := by decide +kernel
theorem dX8_most_105 : decode cX8_most 105 = .ok (.iaload, 1) := by decide +kernel
theorem dX8_most_106 : decode cX8_most 106 = .ok (.sipush 1000, 3) := by decide +kernel
theorem dX8_most_109 : decode cX8_most 109 = .ok (.if_icmp .ge 30, 3) := by decide +kernel
theorem dX8_most_112 : decode cX8_most 112 = .ok (.iload 5, 2) := by decide +kernel
theorem dX8_most_114 : decode cX8_most 114 = .ok (.iload_n 2, 1) := by decide +kernel
theorem dX8_most_115 : decode cX8_most 115 = .ok (.if_icmp .gt 15, 3) := by decide +kernel
theorem dX8_most_118 : decode cX8_most 118 = .ok (.iload 5, 2) := by decide +kernel
theorem dX8_most_120 : decode cX8_most 120 = .ok (.iload_n 2, 1) := by decide +kernel
theorem dX8_most_121 : decode cX8_most 121 = .ok (.if_icmp .ne 18, 3) := by decide +kernel
theorem dX8_most_124 : decode cX8_most 124 = .ok (.iload 6, 2) := by decide +kernel
theorem dX8_most_126 : decode cX8_most 126 = .ok (.iload_n 3, 1) := by decide +kernel
theorem dX8_most_127 : decode cX8_most 127 = .ok (.if_icmp .le 12, 3) := by decide +kernel
theorem dX8_most_130 : decode cX8_most 130 = .ok (.iload 4, 2) := by decide +kernel
theorem dX8_most_132 : decode cX8_most 132 = .ok (.istore_n 1, 1) := by decide +kernel
theorem dX8_most_133 : decode cX8_most 133 = .ok (.iload 5, 2) := by decide +kernel
theorem dX8_most_135 : decode cX8_most 135 = .ok (.istore_n 2, 1) := by decide +kernel
theorem dX8_most_136 : decode cX8_most 136 = .ok (.iload 6, 2) := by decide +kernel
theorem dX8_most_138 : decode cX8_most 138 = .ok (.istore_n 3, 1) := by decide +kernel
theorem dX8_most_139 : decode cX8_most 139 = .ok (.iinc 4 1, 3) := by decide +kernel
theorem dX8_most_142 : decode cX8_most 142 = .ok (.goto (-133), 3) := by decide +kernel
theorem dX8_most_145 : decode cX8_most 145 = .ok (.iload_n 1, 1) := by decide +kernel
theorem dX8_most_146 : decode cX8_most 146 = .ok (.ireturn, 1) := by decide +kernel
theorem dX8_sees_0 : decode cX8_sees 0 = .ok (.iload_n 1, 1) := by decide +kernel
theorem dX8_sees_1 : decode cX8_sees 1 = .ok (.iconst 0, 1) := by decide +kernel
theorem dX8_sees_2 : decode cX8_sees 2 = .ok (.iconst 3, 1) := by decide +kernel
theorem dX8_sees_3 : decode cX8_sees 3 = .ok (.invokestatic 67, 3) := by decide +kernel
theorem dX8_sees_6 : decode cX8_sees 6 = .ok (.ifCond .eq 14, 3) := by decide +kernel
theorem dX8_sees_9 : decode cX8_sees 9 = .ok (.iload_n 2, 1) := by decide +kernel
theorem dX8_sees_10 : decode cX8_sees 10 = .ok (.bipush (-99), 2) := by decide +kernel
theorem dX8_sees_12 : decode cX8_sees 12 = .ok (.bipush 99, 2) := by decide +kernel
theorem dX8_sees_14 : decode cX8_sees 14 = .ok (.invokestatic 67, 3) := by decide +kernel
theorem dX8_sees_17 : decode cX8_sees 17 = .ok (.ifCond .ne 5, 3) := by decide +kernel
theorem dX8_sees_20 : decode cX8_sees 20 = .ok (.iconst (-1), 1) := by decide +kernel
theorem dX8_sees_21 : decode cX8_sees 21 = .ok (.ireturn, 1) := by decide +kernel
theorem dX8_sees_22 : decode cX8_sees 22 = .ok (.aload_n 0, 1) := by decide +kernel
theorem dX8_sees_23 : decode cX8_sees 23 = .ok (.getfield 189, 3) := by decide +kernel
theorem dX8_sees_26 : decode cX8_sees 26 = .ok (.bipush 6, 2) := by decide +kernel
theorem dX8_sees_28 : decode cX8_sees 28 = .ok (.if_icmp .ne 6, 3) := by decide +kernel
theorem dX8_sees_31 : decode cX8_sees 31 = .ok (.bipush (-3), 2) := by decide +kernel
theorem dX8_sees_33 : decode cX8_sees 33 = .ok (.ireturn, 1) := by decide +kernel
theorem dX8_sees_34 : decode cX8_sees 34 = .ok (.aload_n 0, 1) := by decide +kernel
theorem dX8_sees_35 : decode cX8_sees 35 = .ok (.getfield 26, 3) := by decide +kernel
theorem dX8_sees_38 : decode cX8_sees 38 = .ok (.aload_n 0, 1) := by decide +kernel
theorem dX8_sees_39 : decode cX8_sees 39 = .ok (.getfield 189, 3) := by decide +kernel
theorem dX8_sees_42 : decode cX8_sees 42 = .ok (.iload_n 1, 1) := by decide +kernel
theorem dX8_sees_43 : decode cX8_sees 43 = .ok (.iastore, 1) := by decide +kernel
theorem dX8_sees_44 : decode cX8_sees 44 = .ok (.aload_n 0, 1) := by decide +kernel
theorem dX8_sees_45 : decode cX8_sees 45 = .ok (.getfield 29, 3) := by decide +kernel
theorem dX8_sees_48 : decode cX8_sees 48 = .ok (.aload_n 0, 1) := by decide +kernel
theorem dX8_sees_49 : decode cX8_sees 49 = .ok (.getfield 189, 3) := by decide +kernel
theorem dX8_sees_52 : decode cX8_sees 52 = .ok (.iload_n 2, 1) := by decide +kernel
theorem dX8_sees_53 : decode cX8_sees 53 = .ok (.iastore, 1) := by decide +kernel
theorem dX8_sees_54 : decode cX8_sees 54 = .ok (.aload_n 0, 1) := by decide +kernel
theorem dX8_sees_55 : decode cX8_sees 55 = .ok (.dup, 1) := by decide +kernel
theorem dX8_sees_56 : decode cX8_sees 56 = .ok (.getfield 189, 3) := by decide +kernel
theorem dX8_sees_59 : decode cX8_sees 59 = .ok (.iconst 1, 1) := by decide +kernel
theorem dX8_sees_60 : decode cX8_sees 60 = .ok (.iadd, 1) := by decide +kernel
theorem dX8_sees_61 : decode cX8_sees 61 = .ok (.putfield 189, 3) := by decide +kernel
theorem dX8_sees_64 : decode cX8_sees 64 = .ok (.aload_n 0, 1) := by decide +kernel
theorem dX8_sees_65 : decode cX8_sees 65 = .ok (.getfield 189, 3) := by decide +kernel
theorem dX8_sees_68 : decode cX8_sees 68 = .ok (.ireturn, 1) := by decide +kernel
theorem dX8_forget_0 : decode cX8_forget 0 = .ok (.aload_n 0, 1) := by decide +kernel
theorem dX8_forget_1 : decode cX8_forget 1 = .ok (.getfield 189, 3) := by decide +kernel
theorem dX8_forget_4 : decode cX8_forget 4 = .ok (.istore_n 1, 1) := by decide +kernel
theorem dX8_forget_5 : decode cX8_forget 5 = .ok (.aload_n 0, 1) := by decide +kernel
theorem dX8_forget_6 : decode cX8_forget 6 = .ok (.iconst 0, 1) := by decide +kernel
theorem dX8_forget_7 : decode cX8_forget 7 = .ok (.putfield 189, 3) := by decide +kernel
theorem dX8_forget_10 : decode cX8_forget 10 = .ok (.iload_n 1, 1) := by decide +kernel
theorem dX8_forget_11 : decode cX8_forget 11 = .ok (.ireturn, 1) := by decide +kernel
theorem dX8_isSeen_0 : decode cX8_isSeen 0 = .ok (.iconst 1, 1) := by decide +kernel
theorem dX8_isSeen_1 : decode cX8_isSeen 1 = .ok (.istore_n 2, 1) := by decide +kernel
theorem dX8_isSeen_2 : decode cX8_isSeen 2 = .ok (.iconst 0, 1) := by decide +kernel
theorem dX8_isSeen_3 : decode cX8_isSeen 3 = .ok (.istore_n 3, 1) := by decide +kernel
theorem dX8_isSeen_4 : decode cX8_isSeen 4 = .ok (.iload_n 3, 1) := by decide +kernel
theorem dX8_isSeen_5 : decode cX8_isSeen 5 = .ok (.aload_n 0, 1) := by decide +kernel
theorem dX8_isSeen_6 : decode cX8_isSeen 6 = .ok (.getfield 189, 3) := by decide +kernel
theorem dX8_isSeen_9 : decode cX8_isSeen 9 = .ok (.if_icmp .ge 71, 3) := by decide +kernel
theorem dX8_isSeen_12 : decode cX8_isSeen 12 = .ok (.aload_n 0, 1) := by decide +kernel
theorem dX8_isSeen_13 : decode cX8_isSeen 13 = .ok (.getfield 26, 3) := by decide +kernel
theorem dX8_isSeen_16 : decode cX8_isSeen 16 = .ok (.iload_n 3, 1) := by decide +kernel
theorem dX8_isSeen_17 : decode cX8_isSeen 17 = .ok (.iaload, 1) := by decide +kernel
theorem dX8_isSeen_18 : decode cX8_isSeen 18 = .ok (.istore 4, 2) := by decide +kernel
theorem dX8_isSeen_20 : decode cX8_isSeen 20 = .ok (.iload 4, 2) := by decide +kernel
theorem dX8_isSeen_22 : decode cX8_isSeen 22 = .ok (.iconst 3, 1) := by decide +kernel
theorem dX8_isSeen_23 : decode cX8_isSeen 23 = .ok (.if_icmp .ne 11, 3) := by decide +kernel
theorem dX8_isSeen_26 : decode cX8_isSeen 26 = .ok (.aload_n 0, 1) := by decide +kernel
theorem dX8_isSeen_27 : decode cX8_isSeen 27 = .ok (.iload_n 1, 1) := by decide +kernel
theorem dX8_isSeen_28 : decode cX8_isSeen 28 = .ok (.invokevirtual 129, 3) := by decide +kernel
theorem dX8_isSeen_31 : decode cX8_isSeen 31 = .ok (.goto 20, 3) := by decide +kernel
theorem dX8_isSeen_34 : decode cX8_isSeen 34 = .ok (.aload_n 0, 1) := by decide +kernel
theorem dX8_isSeen_35 : decode cX8_isSeen 35 = .ok (.iload_n 1, 1) := by decide +kernel
theorem dX8_isSeen_36 : decode cX8_isSeen 36 = .ok (.iload 4, 2) := by decide +kernel
theorem dX8_isSeen_38 : decode cX8_isSeen 38 = .ok (.iconst 2, 1) := by decide +kernel
theorem dX8_isSeen_39 : decode cX8_isSeen 39 = .ok (.if_icmp .ne 7, 3) := by decide +kernel
theorem dX8_isSeen_42 : decode cX8_isSeen 42 = .ok (.iconst 3, 1) := by decide +kernel
theorem dX8_isSeen_43 : decode cX8_isSeen 43 = .ok (.goto 5, 3) := by decide +kernel
theorem dX8_isSeen_46 : decode cX8_isSeen 46 = .ok (.iload 4, 2) := by decide +kernel
theorem dX8_isSeen_48 : decode cX8_isSeen 48 = .ok (.invokevirtual 118, 3) := by decide +kernel
theorem dX8_isSeen_51 : decode cX8_isSeen 51 = .ok (.istore 5, 2) := by decide +kernel
theorem dX8_isSeen_53 : decode cX8_isSeen 53 = .ok (.iload_n 2, 1) := by decide +kernel
theorem dX8_isSeen_54 : decode cX8_isSeen 54 = .ok (.ifCond .eq 18, 3) := by decide +kernel
theorem dX8_isSeen_57 : decode cX8_isSeen 57 = .ok (.iload 5, 2) := by decide +kernel
theorem dX8_isSeen_59 : decode cX8_isSeen 59 = .ok (.aload_n 0, 1) := by decide +kernel
theorem dX8_isSeen_60 : decode cX8_isSeen 60 = .ok (.getfield 29, 3) := by decide +kernel
theorem dX8_isSeen_63 : decode cX8_isSeen 63 = .ok (.iload_n 3, 1) := by decide +kernel
theorem dX8_isSeen_64 : decode cX8_isSeen 64 = .ok (.iaload, 1) := by decide +kernel
theorem dX8_isSeen_65 : decode cX8_isSeen 65 = .ok (.if_icmp .ne 7, 3) := by decide +kernel
theorem dX8_isSeen_68 : decode cX8_isSeen 68 = .ok (.iconst 1, 1) := by decide +kernel
theorem dX8_isSeen_69 : decode cX8_isSeen 69 = .ok (.goto 4, 3) := by decide +kernel
theorem dX8_isSeen_72 : decode cX8_isSeen 72 = .ok (.iconst 0, 1) := by decide +kernel
theorem dX8_isSeen_73 : decode cX8_isSeen 73 = .ok (.istore_n 2, 1) := by decide +kernel
theorem dX8_isSeen_74 : decode cX8_isSeen 74 = .ok (.iinc 3 1, 3) := by decide +kernel
theorem dX8_isSeen_77 : decode cX8_isSeen 77 = .ok (.goto (-73), 3) := by decide +kernel
theorem dX8_isSeen_80 : decode cX8_isSeen 80 = .ok (.iload_n 2, 1) := by decide +kernel
theorem dX8_isSeen_81 : decode cX8_isSeen 81 = .ok (.ireturn, 1) := by decide +kernel
theorem dX8_which_0 : decode cX8_which 0 = .ok (.iconst 0, 1) := by decide +kernel
theorem dX8_which_1 : decode cX8_which 1 = .ok (.istore_n 2, 1) := by decide +kernel
theorem dX8_which_2 : decode cX8_which 2 = .ok (.bipush (-9), 2) := by decide +kernel
theorem dX8_which_4 : decode cX8_which 4 = .ok (.istore_n 3, 1) := by decide +kernel
theorem dX8_which_5 : decode cX8_which 5 = .ok (.aload_n 0, 1) := by decide +kernel
theorem dX8_which_6 : decode cX8_which 6 = .ok (.getfield 7, 3) := by decide +kernel
theorem dX8_which_9 : decode cX8_which 9 = .ok (.iconst 3, 1) := by decide +kernel
theorem dX8_which_10 : decode cX8_which 10 = .ok (.iaload, 1) := by decide +kernel
theorem dX8_which_11 : decode cX8_which 11 = .ok (.iconst 1, 1) := by decide +kernel
theorem dX8_which_12 : decode cX8_which 12 = .ok (.isub, 1) := by decide +kernel
theorem dX8_which_13 : decode cX8_which 13 = .ok (.istore 4, 2) := by decide +kernel
theorem dX8_which_15 : decode cX8_which 15 = .ok (.iload 4, 2) := by decide +kernel
theorem dX8_which_17 : decode cX8_which 17 = .ok (.ifCond .lt 42, 3) := by decide +kernel
theorem dX8_which_20 : decode cX8_which 20 = .ok (.iload_n 2, 1) := by decide +kernel
theorem dX8_which_21 : decode cX8_which 21 = .ok (.aload_n 0, 1) := by decide +kernel
theorem dX8_which_22 : decode cX8_which 22 = .ok (.iload 4, 2) := by decide +kernel
theorem dX8_which_24 : decode cX8_which 24 = .ok (.invokevirtual 192, 3) := by decide +kernel
theorem dX8_which_27 : decode cX8_which 27 = .ok (.ifCond .eq 7, 3) := by decide +kernel
theorem dX8_which_30 : decode cX8_which 30 = .ok (.iconst 1, 1) := by decide +kernel
theorem dX8_which_31 : decode cX8_which 31 = .ok (.goto 4, 3) := by decide +kernel
theorem dX8_which_34 : decode cX8_which 34 = .ok (.iconst 0, 1) := by decide +kernel
theorem dX8_which_35 : decode cX8_which 35 = .ok (.iadd, 1) := by decide +kernel
theorem dX8_which_36 : decode cX8_which 36 = .ok (.istore_n 2, 1) := by decide +kernel
theorem dX8_which_37 : decode cX8_which 37 = .ok (.aload_n 0, 1) := by decide +kernel
theorem dX8_which_38 : decode cX8_which 38 = .ok (.iload 4, 2) := by decide +kernel
theorem dX8_which_40 : decode cX8_which 40 = .ok (.invokevirtual 192, 3) := by decide +kernel
theorem dX8_which_43 : decode cX8_which 43 = .ok (.ifCond .eq 8, 3) := by decide +kernel
theorem dX8_which_46 : decode cX8_which 46 = .ok (.iload 4, 2) := by decide +kernel
theorem dX8_which_48 : decode cX8_which 48 = .ok (.goto 4, 3) := by decide +kernel
theorem dX8_which_51 : decode cX8_which 51 = .ok (.iload_n 3, 1) := by decide +kernel
theorem dX8_which_52 : decode cX8_which 52 = .ok (.istore_n 3, 1) := by decide +kernel
theorem dX8_which_53 : decode cX8_which 53 = .ok (.iinc 4 (-1), 3) := by decide +kernel
theorem dX8_which_56 : decode cX8_which 56 = .ok (.goto (-41), 3) := by decide +kernel
theorem dX8_which_59 : decode cX8_which 59 = .ok (.iload_n 1, 1) := by decide +kernel
theorem dX8_which_60 : decode cX8_which 60 = .ok (.ifCond .ne 7, 3) := by decide +kernel
theorem dX8_which_63 : decode cX8_which 63 = .ok (.iload_n 2, 1) := by decide +kernel
theorem dX8_which_64 : decode cX8_which 64 = .ok (.goto 13, 3) := by decide +kernel
theorem dX8_which_67 : decode cX8_which 67 = .ok (.iload_n 1, 1) := by decide +kernel
theorem dX8_which_68 : decode cX8_which 68 = .ok (.iconst 1, 1) := by decide +kernel
theorem dX8_which_69 : decode cX8_which 69 = .ok (.if_icmp .ne 7, 3) := by decide +kernel
theorem dX8_which_72 : decode cX8_which 72 = .ok (.iload_n 3, 1) := by decide +kernel
theorem dX8_which_73 : decode cX8_which 73 = .ok (.goto 4, 3) := by decide +kernel
theorem dX8_which_76 : decode cX8_which 76 = .ok (.iconst (-1), 1) := by decide +kernel
theorem dX8_which_77 : decode cX8_which 77 = .ok (.ireturn, 1) := by decide +kernel
theorem dX8_hanging_0 : decode cX8_hanging 0 = .ok (.iconst 0, 1) := by decide +kernel
theorem dX8_hanging_1 : decode cX8_hanging 1 = .ok (.istore_n 1, 1) := by decide +kernel
theorem dX8_hanging_2 : decode cX8_hanging 2 = .ok (.iconst 0, 1) := by decide +kernel
theorem dX8_hanging_3 : decode cX8_hanging 3 = .ok (.istore_n 2, 1) := by decide +kernel
theorem dX8_hanging_4 : decode cX8_hanging 4 = .ok (.iload_n 2, 1) := by decide +kernel
theorem dX8_hanging_5 : decode cX8_hanging 5 = .ok (.aload_n 0, 1) := by decide +kernel
theorem dX8_hanging_6 : decode cX8_hanging 6 = .ok (.getfield 7, 3) := by decide +kernel
theorem dX8_hanging_9 : decode cX8_hanging 9 = .ok (.iconst 3, 1) := by decide +kernel
theorem dX8_hanging_10 : decode cX8_hanging 10 = .ok (.iaload, 1) := by decide +kernel
theorem dX8_hanging_11 : decode cX8_hanging 11 = .ok (.if_icmp .ge 25, 3) := by decide +kernel
theorem dX8_hanging_14 : decode cX8_hanging 14 = .ok (.iload_n 1, 1) := by decide +kernel
theorem dX8_hanging_15 : decode cX8_hanging 15 = .ok (.aload_n 0, 1) := by decide +kernel
theorem dX8_hanging_16 : decode cX8_hanging 16 = .ok (.iload_n 2, 1) := by decide +kernel
theorem dX8_hanging_17 : decode cX8_hanging 17 = .ok (.invokevirtual 122, 3) := by decide +kernel
theorem dX8_hanging_20 : decode cX8_hanging 20 = .ok (.ifCond .eq 7, 3) := by decide +kernel
theorem dX8_hanging_23 : decode cX8_hanging 23 = .ok (.iconst 1, 1) := by decide +kernel
theorem dX8_hanging_24 : decode cX8_hanging 24 = .ok (.goto 4, 3) := by decide +kernel
theorem dX8_hanging_27 : decode cX8_hanging 27 = .ok (.iconst 0, 1) := by decide +kernel
theorem dX8_hanging_28 : decode cX8_hanging 28 = .ok (.iadd, 1) := by decide +kernel
theorem dX8_hanging_29 : decode cX8_hanging 29 = .ok (.istore_n 1, 1) := by decide +kernel
theorem dX8_hanging_30 : decode cX8_hanging 30 = .ok (.iinc 2 1, 3) := by decide +kernel
theorem dX8_hanging_33 : decode cX8_hanging 33 = .ok (.goto (-29), 3) := by decide +kernel
theorem dX8_hanging_36 : decode cX8_hanging 36 = .ok (.iload_n 1, 1) := by decide +kernel
theorem dX8_hanging_37 : decode cX8_hanging 37 = .ok (.ireturn, 1) := by decide +kernel
theorem dX8_keep_0 : decode cX8_keep 0 = .ok (.iload_n 1, 1) := by decide +kernel
theorem dX8_keep_1 : decode cX8_keep 1 = .ok (.iconst 0, 1) := by decide +kernel
theorem dX8_keep_2 : decode cX8_keep 2 = .ok (.iconst 1, 1) := by decide +kernel
theorem dX8_keep_3 : decode cX8_keep 3 = .ok (.invokestatic 67, 3) := by decide +kernel
theorem dX8_keep_6 : decode cX8_keep 6 = .ok (.ifCond .ne 5, 3) := by decide +kernel
theorem dX8_keep_9 : decode cX8_keep 9 = .ok (.iconst (-1), 1) := by decide +kernel
theorem dX8_keep_10 : decode cX8_keep 10 = .ok (.ireturn, 1) := by decide +kernel
theorem dX8_keep_11 : decode cX8_keep 11 = .ok (.iconst 0, 1) := by decide +kernel
theorem dX8_keep_12 : decode cX8_keep 12 = .ok (.istore_n 2, 1) := by decide +kernel
theorem dX8_keep_13 : decode cX8_keep 13 = .ok (.iload_n 2, 1) := by decide +kernel
theorem dX8_keep_14 : decode cX8_keep 14 = .ok (.bipush 69, 2) := by decide +kernel
theorem dX8_keep_16 : decode cX8_keep 16 = .ok (.if_icmp .ge 26, 3) := by decide +kernel
theorem dX8_keep_19 : decode cX8_keep 19 = .ok (.aload_n 0, 1) := by decide +kernel
theorem dX8_keep_20 : decode cX8_keep 20 = .ok (.getfield 19, 3) := by decide +kernel
theorem dX8_keep_23 : decode cX8_keep 23 = .ok (.bipush 69, 2) := by decide +kernel
theorem dX8_keep_25 : decode cX8_keep 25 = .ok (.iload_n 1, 1) := by decide +kernel
theorem dX8_keep_26 : decode cX8_keep 26 = .ok (.imul, 1) := by decide +kernel
theorem dX8_keep_27 : decode cX8_keep 27 = .ok (.iload_n 2, 1) := by decide +kernel
theorem dX8_keep_28 : decode cX8_keep 28 = .ok (.iadd, 1) := by decide +kernel
end
section
theorem dX8_keep_29 : decode cX8_keep 29 = .ok (.aload_n 0, 1) := by decide +kernel
theorem dX8_keep_30 : decode cX8_keep 30 = .ok (.getfield 7, 3) := by decide +kernel
theorem dX8_keep_33 : decode cX8_keep 33 = .ok (.iload_n 2, 1) := by decide +kernel
theorem dX8_keep_34 : decode cX8_keep 34 = .ok (.iaload, 1) := by decide +kernel
theorem dX8_keep_35 : decode cX8_keep 35 = .ok (.iastore, 1) := by decide +kernel
theorem dX8_keep_36 : decode cX8_keep 36 = .ok (.iinc 2 1, 3) := by decide +kernel
theorem dX8_keep_39 : decode cX8_keep 39 = .ok (.goto (-26), 3) := by decide +kernel
theorem dX8_keep_42 : decode cX8_keep 42 = .ok (.aload_n 0, 1) := by decide +kernel
theorem dX8_keep_43 : decode cX8_keep 43 = .ok (.getfield 22, 3) := by decide +kernel
theorem dX8_keep_46 : decode cX8_keep 46 = .ok (.iload_n 1, 1) := by decide +kernel
theorem dX8_keep_47 : decode cX8_keep 47 = .ok (.iconst 1, 1) := by decide +kernel
theorem dX8_keep_48 : decode cX8_keep 48 = .ok (.bastore, 1) := by decide +kernel
theorem dX8_keep_49 : decode cX8_keep 49 = .ok (.aload_n 0, 1) := by decide +kernel
theorem dX8_keep_50 : decode cX8_keep 50 = .ok (.invokevirtual 195, 3) := by decide +kernel
theorem dX8_keep_53 : decode cX8_keep 53 = .ok (.ireturn, 1) := by decide +kernel
theorem dX8_back_0 : decode cX8_back 0 = .ok (.iload_n 1, 1) := by decide +kernel
theorem dX8_back_1 : decode cX8_back 1 = .ok (.iconst 0, 1) := by decide +kernel
theorem dX8_back_2 : decode cX8_back 2 = .ok (.iconst 1, 1) := by decide +kernel
theorem dX8_back_3 : decode cX8_back 3 = .ok (.invokestatic 67, 3) := by decide +kernel
theorem dX8_back_6 : decode cX8_back 6 = .ok (.ifCond .ne 5, 3) := by decide +kernel
theorem dX8_back_9 : decode cX8_back 9 = .ok (.iconst (-1), 1) := by decide +kernel
theorem dX8_back_10 : decode cX8_back 10 = .ok (.ireturn, 1) := by decide +kernel
theorem dX8_back_11 : decode cX8_back 11 = .ok (.aload_n 0, 1) := by decide +kernel
theorem dX8_back_12 : decode cX8_back 12 = .ok (.getfield 22, 3) := by decide +kernel
theorem dX8_back_15 : decode cX8_back 15 = .ok (.iload_n 1, 1) := by decide +kernel
theorem dX8_back_16 : decode cX8_back 16 = .ok (.baload, 1) := by decide +kernel
theorem dX8_back_17 : decode cX8_back 17 = .ok (.ifCond .ne 6, 3) := by decide +kernel
theorem dX8_back_20 : decode cX8_back 20 = .ok (.bipush (-2), 2) := by decide +kernel
theorem dX8_back_22 : decode cX8_back 22 = .ok (.ireturn, 1) := by decide +kernel
theorem dX8_back_23 : decode cX8_back 23 = .ok (.iconst 0, 1) := by decide +kernel
theorem dX8_back_24 : decode cX8_back 24 = .ok (.istore_n 2, 1) := by decide +kernel
theorem dX8_back_25 : decode cX8_back 25 = .ok (.iload_n 2, 1) := by decide +kernel
theorem dX8_back_26 : decode cX8_back 26 = .ok (.bipush 69, 2) := by decide +kernel
theorem dX8_back_28 : decode cX8_back 28 = .ok (.if_icmp .ge 26, 3) := by decide +kernel
theorem dX8_back_31 : decode cX8_back 31 = .ok (.aload_n 0, 1) := by decide +kernel
theorem dX8_back_32 : decode cX8_back 32 = .ok (.getfield 7, 3) := by decide +kernel
theorem dX8_back_35 : decode cX8_back 35 = .ok (.iload_n 2, 1) := by decide +kernel
theorem dX8_back_36 : decode cX8_back 36 = .ok (.aload_n 0, 1) := by decide +kernel
theorem dX8_back_37 : decode cX8_back 37 = .ok (.getfield 19, 3) := by decide +kernel
theorem dX8_back_40 : decode cX8_back 40 = .ok (.bipush 69, 2) := by decide +kernel
theorem dX8_back_42 : decode cX8_back 42 = .ok (.iload_n 1, 1) := by decide +kernel
theorem dX8_back_43 : decode cX8_back 43 = .ok (.imul, 1) := by decide +kernel
theorem dX8_back_44 : decode cX8_back 44 = .ok (.iload_n 2, 1) := by decide +kernel
theorem dX8_back_45 : decode cX8_back 45 = .ok (.iadd, 1) := by decide +kernel
theorem dX8_back_46 : decode cX8_back 46 = .ok (.iaload, 1) := by decide +kernel
theorem dX8_back_47 : decode cX8_back 47 = .ok (.iastore, 1) := by decide +kernel
theorem dX8_back_48 : decode cX8_back 48 = .ok (.iinc 2 1, 3) := by decide +kernel
theorem dX8_back_51 : decode cX8_back 51 = .ok (.goto (-26), 3) := by decide +kernel
theorem dX8_back_54 : decode cX8_back 54 = .ok (.aload_n 0, 1) := by decide +kernel
theorem dX8_back_55 : decode cX8_back 55 = .ok (.iconst 0, 1) := by decide +kernel
theorem dX8_back_56 : decode cX8_back 56 = .ok (.putfield 108, 3) := by decide +kernel
theorem dX8_back_59 : decode cX8_back 59 = .ok (.aload_n 0, 1) := by decide +kernel
theorem dX8_back_60 : decode cX8_back 60 = .ok (.invokevirtual 195, 3) := by decide +kernel
theorem dX8_back_63 : decode cX8_back 63 = .ok (.ireturn, 1) := by decide +kernel
theorem dX8_count_0 : decode cX8_count 0 = .ok (.iload_n 1, 1) := by decide +kernel
theorem dX8_count_1 : decode cX8_count 1 = .ok (.tableswitch 119 0 9 #[55, 62, 69, 76, 83, 91, 99, 104, 109, 114], 55) := by decide +kernel
theorem dX8_count_56 : decode cX8_count 56 = .ok (.aload_n 0, 1) := by decide +kernel
theorem dX8_count_57 : decode cX8_count 57 = .ok (.getfield 7, 3) := by decide +kernel
theorem dX8_count_60 : decode cX8_count 60 = .ok (.iconst 0, 1) := by decide +kernel
theorem dX8_count_61 : decode cX8_count 61 = .ok (.iaload, 1) := by decide +kernel
theorem dX8_count_62 : decode cX8_count 62 = .ok (.ireturn, 1) := by decide +kernel
theorem dX8_count_63 : decode cX8_count 63 = .ok (.aload_n 0, 1) := by decide +kernel
theorem dX8_count_64 : decode cX8_count 64 = .ok (.getfield 7, 3) := by decide +kernel
theorem dX8_count_67 : decode cX8_count 67 = .ok (.iconst 1, 1) := by decide +kernel
theorem dX8_count_68 : decode cX8_count 68 = .ok (.iaload, 1) := by decide +kernel
theorem dX8_count_69 : decode cX8_count 69 = .ok (.ireturn, 1) := by decide +kernel
theorem dX8_count_70 : decode cX8_count 70 = .ok (.aload_n 0, 1) := by decide +kernel
theorem dX8_count_71 : decode cX8_count 71 = .ok (.getfield 7, 3) := by decide +kernel
theorem dX8_count_74 : decode cX8_count 74 = .ok (.iconst 2, 1) := by decide +kernel
theorem dX8_count_75 : decode cX8_count 75 = .ok (.iaload, 1) := by decide +kernel
theorem dX8_count_76 : decode cX8_count 76 = .ok (.ireturn, 1) := by decide +kernel
theorem dX8_count_77 : decode cX8_count 77 = .ok (.aload_n 0, 1) := by decide +kernel
theorem dX8_count_78 : decode cX8_count 78 = .ok (.getfield 7, 3) := by decide +kernel
theorem dX8_count_81 : decode cX8_count 81 = .ok (.iconst 3, 1) := by decide +kernel
theorem dX8_count_82 : decode cX8_count 82 = .ok (.iaload, 1) := by decide +kernel
theorem dX8_count_83 : decode cX8_count 83 = .ok (.ireturn, 1) := by decide +kernel
theorem dX8_count_84 : decode cX8_count 84 = .ok (.aload_n 0, 1) := by decide +kernel
theorem dX8_count_85 : decode cX8_count 85 = .ok (.getfield 7, 3) := by decide +kernel
theorem dX8_count_88 : decode cX8_count 88 = .ok (.bipush 24, 2) := by decide +kernel
theorem dX8_count_90 : decode cX8_count 90 = .ok (.iaload, 1) := by decide +kernel
theorem dX8_count_91 : decode cX8_count 91 = .ok (.ireturn, 1) := by decide +kernel
theorem dX8_count_92 : decode cX8_count 92 = .ok (.aload_n 0, 1) := by decide +kernel
theorem dX8_count_93 : decode cX8_count 93 = .ok (.getfield 7, 3) := by decide +kernel
theorem dX8_count_96 : decode cX8_count 96 = .ok (.bipush 31, 2) := by decide +kernel
theorem dX8_count_98 : decode cX8_count 98 = .ok (.iaload, 1) := by decide +kernel
theorem dX8_count_99 : decode cX8_count 99 = .ok (.ireturn, 1) := by decide +kernel
theorem dX8_count_100 : decode cX8_count 100 = .ok (.aload_n 0, 1) := by decide +kernel
theorem dX8_count_101 : decode cX8_count 101 = .ok (.invokevirtual 195, 3) := by decide +kernel
theorem dX8_count_104 : decode cX8_count 104 = .ok (.ireturn, 1) := by decide +kernel
theorem dX8_count_105 : decode cX8_count 105 = .ok (.aload_n 0, 1) := by decide +kernel
theorem dX8_count_106 : decode cX8_count 106 = .ok (.getfield 189, 3) := by decide +kernel
theorem dX8_count_109 : decode cX8_count 109 = .ok (.ireturn, 1) := by decide +kernel
theorem dX8_count_110 : decode cX8_count 110 = .ok (.aload_n 0, 1) := by decide +kernel
theorem dX8_count_111 : decode cX8_count 111 = .ok (.getfield 61, 3) := by decide +kernel
theorem dX8_count_114 : decode cX8_count 114 = .ok (.ireturn, 1) := by decide +kernel
theorem dX8_count_115 : decode cX8_count 115 = .ok (.aload_n 0, 1) := by decide +kernel
theorem dX8_count_116 : decode cX8_count 116 = .ok (.getfield 108, 3) := by decide +kernel
theorem dX8_count_119 : decode cX8_count 119 = .ok (.ireturn, 1) := by decide +kernel
theorem dX8_count_120 : decode cX8_count 120 = .ok (.iconst (-1), 1) := by decide +kernel
theorem dX8_count_121 : decode cX8_count 121 = .ok (.ireturn, 1) := by decide +kernel
theorem dJ6_bitCount_0f7a4_0 : decode cJ6_bitCount_0f7a4 0 = .ok (.iload_n 0, 1) := by decide +kernel
theorem dJ6_bitCount_0f7a4_1 : decode cJ6_bitCount_0f7a4 1 = .ok (.iload_n 0, 1) := by decide +kernel
theorem dJ6_bitCount_0f7a4_2 : decode cJ6_bitCount_0f7a4 2 = .ok (.iconst 1, 1) := by decide +kernel
theorem dJ6_bitCount_0f7a4_3 : decode cJ6_bitCount_0f7a4 3 = .ok (.iushr, 1) := by decide +kernel
theorem dJ6_bitCount_0f7a4_4 : decode cJ6_bitCount_0f7a4 4 = .ok (.ldc_w 265, 3) := by decide +kernel
theorem dJ6_bitCount_0f7a4_7 : decode cJ6_bitCount_0f7a4 7 = .ok (.iand, 1) := by decide +kernel
theorem dJ6_bitCount_0f7a4_8 : decode cJ6_bitCount_0f7a4 8 = .ok (.isub, 1) := by decide +kernel
theorem dJ6_bitCount_0f7a4_9 : decode cJ6_bitCount_0f7a4 9 = .ok (.istore_n 0, 1) := by decide +kernel
theorem dJ6_bitCount_0f7a4_10 : decode cJ6_bitCount_0f7a4 10 = .ok (.iload_n 0, 1) := by decide +kernel
theorem dJ6_bitCount_0f7a4_11 : decode cJ6_bitCount_0f7a4 11 = .ok (.ldc_w 266, 3) := by decide +kernel
theorem dJ6_bitCount_0f7a4_14 : decode cJ6_bitCount_0f7a4 14 = .ok (.iand, 1) := by decide +kernel
theorem dJ6_bitCount_0f7a4_15 : decode cJ6_bitCount_0f7a4 15 = .ok (.iload_n 0, 1) := by decide +kernel
theorem dJ6_bitCount_0f7a4_16 : decode cJ6_bitCount_0f7a4 16 = .ok (.iconst 2, 1) := by decide +kernel
theorem dJ6_bitCount_0f7a4_17 : decode cJ6_bitCount_0f7a4 17 = .ok (.iushr, 1) := by decide +kernel
theorem dJ6_bitCount_0f7a4_18 : decode cJ6_bitCount_0f7a4 18 = .ok (.ldc_w 266, 3) := by decide +kernel
theorem dJ6_bitCount_0f7a4_21 : decode cJ6_bitCount_0f7a4 21 = .ok (.iand, 1) := by decide +kernel
theorem dJ6_bitCount_0f7a4_22 : decode cJ6_bitCount_0f7a4 22 = .ok (.iadd, 1) := by decide +kernel
theorem dJ6_bitCount_0f7a4_23 : decode cJ6_bitCount_0f7a4 23 = .ok (.istore_n 0, 1) := by decide +kernel
theorem dJ6_bitCount_0f7a4_24 : decode cJ6_bitCount_0f7a4 24 = .ok (.iload_n 0, 1) := by decide +kernel
theorem dJ6_bitCount_0f7a4_25 : decode cJ6_bitCount_0f7a4 25 = .ok (.iload_n 0, 1) := by decide +kernel
theorem dJ6_bitCount_0f7a4_26 : decode cJ6_bitCount_0f7a4 26 = .ok (.iconst 4, 1) := by decide +kernel
theorem dJ6_bitCount_0f7a4_27 : decode cJ6_bitCount_0f7a4 27 = .ok (.iushr, 1) := by decide +kernel
theorem dJ6_bitCount_0f7a4_28 : decode cJ6_bitCount_0f7a4 28 = .ok (.iadd, 1) := by decide +kernel
theorem dJ6_bitCount_0f7a4_29 : decode cJ6_bitCount_0f7a4 29 = .ok (.ldc_w 267, 3) := by decide +kernel
theorem dJ6_bitCount_0f7a4_32 : decode cJ6_bitCount_0f7a4 32 = .ok (.iand, 1) := by decide +kernel
theorem dJ6_bitCount_0f7a4_33 : decode cJ6_bitCount_0f7a4 33 = .ok (.istore_n 0, 1) := by decide +kernel
theorem dJ6_bitCount_0f7a4_34 : decode cJ6_bitCount_0f7a4 34 = .ok (.iload_n 0, 1) := by decide +kernel
theorem dJ6_bitCount_0f7a4_35 : decode cJ6_bitCount_0f7a4 35 = .ok (.iload_n 0, 1) := by decide +kernel
theorem dJ6_bitCount_0f7a4_36 : decode cJ6_bitCount_0f7a4 36 = .ok (.bipush 8, 2) := by decide +kernel
theorem dJ6_bitCount_0f7a4_38 : decode cJ6_bitCount_0f7a4 38 = .ok (.iushr, 1) := by decide +kernel
theorem dJ6_bitCount_0f7a4_39 : decode cJ6_bitCount_0f7a4 39 = .ok (.iadd, 1) := by decide +kernel
theorem dJ6_bitCount_0f7a4_40 : decode cJ6_bitCount_0f7a4 40 = .ok (.istore_n 0, 1) := by decide +kernel
theorem dJ6_bitCount_0f7a4_41 : decode cJ6_bitCount_0f7a4 41 = .ok (.iload_n 0, 1) := by decide +kernel
theorem dJ6_bitCount_0f7a4_42 : decode cJ6_bitCount_0f7a4 42 = .ok (.iload_n 0, 1) := by decide +kernel
theorem dJ6_bitCount_0f7a4_43 : decode cJ6_bitCount_0f7a4 43 = .ok (.bipush 16, 2) := by decide +kernel
theorem dJ6_bitCount_0f7a4_45 : decode cJ6_bitCount_0f7a4 45 = .ok (.iushr, 1) := by decide +kernel
theorem dJ6_bitCount_0f7a4_46 : decode cJ6_bitCount_0f7a4 46 = .ok (.iadd, 1) := by decide +kernel
theorem dJ6_bitCount_0f7a4_47 : decode cJ6_bitCount_0f7a4 47 = .ok (.istore_n 0, 1) := by decide +kernel
theorem dJ6_bitCount_0f7a4_48 : decode cJ6_bitCount_0f7a4 48 = .ok (.iload_n 0, 1) := by decide +kernel
theorem dJ6_bitCount_0f7a4_49 : decode cJ6_bitCount_0f7a4 49 = .ok (.bipush 63, 2) := by decide +kernel
theorem dJ6_bitCount_0f7a4_51 : decode cJ6_bitCount_0f7a4 51 = .ok (.iand, 1) := by decide +kernel
theorem dJ6_bitCount_0f7a4_52 : decode cJ6_bitCount_0f7a4 52 = .ok (.ireturn, 1) := by decide +kernel
theorem dJ9_abs_0f7a4_0 : decode cJ9_abs_0f7a4 0 = .ok (.iload_n 0, 1) := by decide +kernel
theorem dJ9_abs_0f7a4_1 : decode cJ9_abs_0f7a4 1 = .ok (.ifCond .ge 8, 3) := by decide +kernel
theorem dJ9_abs_0f7a4_4 : decode cJ9_abs_0f7a4 4 = .ok (.iload_n 0, 1) := by decide +kernel
theorem dJ9_abs_0f7a4_5 : decode cJ9_abs_0f7a4 5 = .ok (.ineg, 1) := by decide +kernel
theorem dJ9_abs_0f7a4_6 : decode cJ9_abs_0f7a4 6 = .ok (.goto 4, 3) := by decide +kernel
theorem dJ9_abs_0f7a4_9 : decode cJ9_abs_0f7a4 9 = .ok (.iload_n 0, 1) := by decide +kernel
theorem dJ9_abs_0f7a4_10 : decode cJ9_abs_0f7a4 10 = .ok (.ireturn, 1) := by decide +kernel
theorem dJ9_max_7cf53_0 : decode cJ9_max_7cf53 0 = .ok (.iload_n 0, 1) := by decide +kernel
theorem dJ9_max_7cf53_1 : decode cJ9_max_7cf53 1 = .ok (.iload_n 1, 1) := by decide +kernel
theorem dJ9_max_7cf53_2 : decode cJ9_max_7cf53 2 = .ok (.if_icmp .lt 7, 3) := by decide +kernel
theorem dJ9_max_7cf53_5 : decode cJ9_max_7cf53 5 = .ok (.iload_n 0, 1) := by decide +kernel
theorem dJ9_max_7cf53_6 : decode cJ9_max_7cf53 6 = .ok (.goto 4, 3) := by decide +kernel
theorem dJ9_max_7cf53_9 : decode cJ9_max_7cf53 9 = .ok (.iload_n 1, 1) := by decide +kernel
theorem dJ9_max_7cf53_10 : decode cJ9_max_7cf53 10 = .ok (.ireturn, 1) := by decide +kernel
theorem dJ9_min_7cf53_0 : decode cJ9_min_7cf53 0 = .ok (.iload_n 0, 1) := by decide +kernel
theorem dJ9_min_7cf53_1 : decode cJ9_min_7cf53 1 = .ok (.iload_n 1, 1) := by decide +kernel
theorem dJ9_min_7cf53_2 : decode cJ9_min_7cf53 2 = .ok (.if_icmp .gt 7, 3) := by decide +kernel
theorem dJ9_min_7cf53_5 : decode cJ9_min_7cf53 5 = .ok (.iload_n 0, 1) := by decide +kernel
theorem dJ9_min_7cf53_6 : decode cJ9_min_7cf53 6 = .ok (.goto 4, 3) := by decide +kernel
theorem dJ9_min_7cf53_9 : decode cJ9_min_7cf53 9 = .ok (.iload_n 1, 1) := by decide +kernel
theorem dJ9_min_7cf53_10 : decode cJ9_min_7cf53 10 = .ok (.ireturn, 1) := by decide +kernel
theorem dJ0_length_8abf5_0 : decode cJ0_length_8abf5 0 = .ok (.aload_n 0, 1) := by decide +kernel
theorem dJ0_length_8abf5_1 : decode cJ0_length_8abf5 1 = .ok (.getfield 9, 3) := by decide +kernel
theorem dJ0_length_8abf5_4 : decode cJ0_length_8abf5 4 = .ok (.arraylength, 1) := by decide +kernel
theorem dJ0_length_8abf5_5 : decode cJ0_length_8abf5 5 = .ok (.aload_n 0, 1) := by decide +kernel
theorem dJ0_length_8abf5_6 : decode cJ0_length_8abf5 6 = .ok (.invokevirtual 335, 3) := by decide +kernel
theorem dJ0_length_8abf5_9 : decode cJ0_length_8abf5 9 = .ok (.ishr, 1) := by decide +kernel
theorem dJ0_length_8abf5_10 : decode cJ0_length_8abf5 10 = .ok (.ireturn, 1) := by decide +kernel
theorem dJ0_charAt_5068e_0 : decode cJ0_charAt_5068e 0 = .ok (.aload_n 0, 1) := by decide +kernel
theorem dJ0_charAt_5068e_1 : decode cJ0_charAt_5068e 1 = .ok (.invokevirtual 492, 3) := by decide +kernel
theorem dJ0_charAt_5068e_4 : decode cJ0_charAt_5068e 4 = .ok (.ifCond .eq 12, 3) := by decide +kernel
theorem dJ0_charAt_5068e_7 : decode cJ0_charAt_5068e 7 = .ok (.aload_n 0, 1) := by decide +kernel
theorem dJ0_charAt_5068e_8 : decode cJ0_charAt_5068e 8 = .ok (.getfield 9, 3) := by decide +kernel
theorem dJ0_charAt_5068e_11 : decode cJ0_charAt_5068e 11 = .ok (.iload_n 1, 1) := by decide +kernel
theorem dJ0_charAt_5068e_12 : decode cJ0_charAt_5068e 12 = .ok (.invokestatic 495, 3) := by decide +kernel
theorem dJ0_charAt_5068e_15 : decode cJ0_charAt_5068e 15 = .ok (.ireturn, 1) := by decide +kernel
theorem dJ0_charAt_5068e_16 : decode cJ0_charAt_5068e 16 = .ok (.aload_n 0, 1) := by decide +kernel
theorem dJ0_charAt_5068e_17 : decode cJ0_charAt_5068e 17 = .ok (.getfield 9, 3) := by decide +kernel
theorem dJ0_charAt_5068e_20 : decode cJ0_charAt_5068e 20 = .ok (.iload_n 1, 1) := by decide +kernel
theorem dJ0_charAt_5068e_21 : decode cJ0_charAt_5068e 21 = .ok (.invokestatic 498, 3) := by decide +kernel
theorem dJ0_charAt_5068e_24 : decode cJ0_charAt_5068e 24 = .ok (.ireturn, 1) := by decide +kernel
theorem dJ0_coder_7d493_0 : decode cJ0_coder_7d493 0 = .ok (.getstatic 38, 3) := by decide +kernel
theorem dJ0_coder_7d493_3 : decode cJ0_coder_7d493 3 = .ok (.ifCond .eq 10, 3) := by decide +kernel
theorem dJ0_coder_7d493_6 : decode cJ0_coder_7d493 6 = .ok (.aload_n 0, 1) := by decide +kernel
theorem dJ0_coder_7d493_7 : decode cJ0_coder_7d493 7 = .ok (.getfield 15, 3) := by decide +kernel
theorem dJ0_coder_7d493_10 : decode cJ0_coder_7d493 10 = .ok (.goto 4, 3) := by decide +kernel
theorem dJ0_coder_7d493_13 : decode cJ0_coder_7d493 13 = .ok (.iconst 1, 1) := by decide +kernel
theorem dJ0_coder_7d493_14 : decode cJ0_coder_7d493 14 = .ok (.ireturn, 1) := by decide +kernel
theorem dJ0_isLatin1_aae02_0 : decode cJ0_isLatin1_aae02 0 = .ok (.getstatic 38, 3) := by decide +kernel
theorem dJ0_isLatin1_aae02_3 : decode cJ0_isLatin1_aae02 3 = .ok (.ifCond .eq 14, 3) := by decide +kernel
theorem dJ0_isLatin1_aae02_6 : decode cJ0_isLatin1_aae02 6 = .ok (.aload_n 0, 1) := by decide +kernel
theorem dJ0_isLatin1_aae02_7 : decode cJ0_isLatin1_aae02 7 = .ok (.getfield 15, 3) := by decide +kernel
theorem dJ0_isLatin1_aae02_10 : decode cJ0_isLatin1_aae02 10 = .ok (.ifCond .ne 7, 3) := by decide +kernel
theorem dJ0_isLatin1_aae02_13 : decode cJ0_isLatin1_aae02 13 = .ok (.iconst 1, 1) := by decide +kernel
theorem dJ0_isLatin1_aae02_14 : decode cJ0_isLatin1_aae02 14 = .ok (.goto 4, 3) := by decide +kernel
theorem dJ0_isLatin1_aae02_17 : decode cJ0_isLatin1_aae02 17 = .ok (.iconst 0, 1) := by decide +kernel
theorem dJ0_isLatin1_aae02_18 : decode cJ0_isLatin1_aae02 18 = .ok (.ireturn, 1) := by decide +kernel
theorem dJ0_checkIndex_df160_0 : decode cJ0_checkIndex_df160 0 = .ok (.iload_n 0, 1) := by decide +kernel
theorem dJ0_checkIndex_df160_1 : decode cJ0_checkIndex_df160 1 = .ok (.iload_n 1, 1) := by decide +kernel
theorem dJ0_checkIndex_df160_2 : decode cJ0_checkIndex_df160 2 = .ok (.getstatic 1053, 3) := by decide +kernel
theorem dJ0_checkIndex_df160_5 : decode cJ0_checkIndex_df160 5 = .ok (.invokestatic 1059, 3) := by decide +kernel
theorem dJ0_checkIndex_df160_8 : decode cJ0_checkIndex_df160 8 = .ok (.pop, 1) := by decide +kernel
theorem dJ0_checkIndex_df160_9 : decode cJ0_checkIndex_df160 9 = .ok (.return_, 1) := by decide +kernel
theorem dJ1_charAt_3b067_0 : decode cJ1_charAt_3b067 0 = .ok (.iload_n 1, 1) := by decide +kernel
theorem dJ1_charAt_3b067_1 : decode cJ1_charAt_3b067 1 = .ok (.aload_n 0, 1) := by decide +kernel
theorem dJ1_charAt_3b067_2 : decode cJ1_charAt_3b067 2 = .ok (.arraylength, 1) := by decide +kernel
theorem dJ1_charAt_3b067_3 : decode cJ1_charAt_3b067 3 = .ok (.invokestatic 9, 3) := by decide +kernel
theorem dJ1_charAt_3b067_6 : decode cJ1_charAt_3b067 6 = .ok (.aload_n 0, 1) := by decide +kernel
theorem dJ1_charAt_3b067_7 : decode cJ1_charAt_3b067 7 = .ok (.iload_n 1, 1) := by decide +kernel
theorem dJ1_charAt_3b067_8 : decode cJ1_charAt_3b067 8 = .ok (.baload, 1) := by decide +kernel
theorem dJ1_charAt_3b067_9 : decode cJ1_charAt_3b067 9 = .ok (.sipush 255, 3) := by decide +kernel
theorem dJ1_charAt_3b067_12 : decode cJ1_charAt_3b067 12 = .ok (.iand, 1) := by decide +kernel
theorem dJ1_charAt_3b067_13 : decode cJ1_charAt_3b067 13 = .ok (.i2c, 1) := by decide +kernel
theorem dJ1_charAt_3b067_14 : decode cJ1_charAt_3b067 14 = .ok (.ireturn, 1) := by decide +kernel
theorem dJ2_getChar_3b067_0 : decode cJ2_getChar_3b067 0 = .ok (.getstatic 44, 3) := by decide +kernel
theorem dJ2_getChar_3b067_3 : decode cJ2_getChar_3b067 3 = .ok (.ifCond .ne 25, 3) := by decide +kernel
theorem dJ2_getChar_3b067_6 : decode cJ2_getChar_3b067 6 = .ok (.iload_n 1, 1) := by decide +kernel
theorem dJ2_getChar_3b067_7 : decode cJ2_getChar_3b067 7 = .ok (.ifCond .lt 11, 3) := by decide +kernel
theorem dJ2_getChar_3b067_10 : decode cJ2_getChar_3b067 10 = .ok (.iload_n 1, 1) := by decide +kernel
theorem dJ2_getChar_3b067_11 : decode cJ2_getChar_3b067 11 = .ok (.aload_n 0, 1) := by decide +kernel
theorem dJ2_getChar_3b067_12 : decode cJ2_getChar_3b067 12 = .ok (.invokestatic 48, 3) := by decide +kernel
theorem dJ2_getChar_3b067_15 : decode cJ2_getChar_3b067 15 = .ok (.if_icmp .lt 13, 3) := by decide +kernel
theorem dJ2_getChar_3b067_18 : decode cJ2_getChar_3b067 18 = .ok (.new 52, 3) := by decide +kernel
theorem dJ2_getChar_3b067_21 : decode cJ2_getChar_3b067 21 = .ok (.dup, 1) := by decide +kernel
theorem dJ2_getChar_3b067_22 : decode cJ2_getChar_3b067 22 = .ok (.ldc 54, 2) := by decide +kernel
theorem dJ2_getChar_3b067_24 : decode cJ2_getChar_3b067 24 = .ok (.invokespecial 56, 3) := by decide +kernel
theorem dJ2_getChar_3b067_27 : decode cJ2_getChar_3b067 27 = .ok (.athrow, 1) := by decide +kernel
theorem dJ2_getChar_3b067_28 : decode cJ2_getChar_3b067 28 = .ok (.iload_n 1, 1) := by decide +kernel
theorem dJ2_getChar_3b067_29 : decode cJ2_getChar_3b067 29 = .ok (.iconst 1, 1) := by decide +kernel
theorem dJ2_getChar_3b067_30 : decode cJ2_getChar_3b067 30 = .ok (.ishl, 1) := by decide +kernel
theorem dJ2_getChar_3b067_31 : decode cJ2_getChar_3b067 31 = .ok (.istore_n 1, 1) := by decide +kernel
theorem dJ2_getChar_3b067_32 : decode cJ2_getChar_3b067 32 = .ok (.aload_n 0, 1) := by decide +kernel
theorem dJ2_getChar_3b067_33 : decode cJ2_getChar_3b067 33 = .ok (.iload_n 1, 1) := by decide +kernel
theorem dJ2_getChar_3b067_34 : decode cJ2_getChar_3b067 34 = .ok (.iinc 1 1, 3) := by decide +kernel
theorem dJ2_getChar_3b067_37 : decode cJ2_getChar_3b067 37 = .ok (.baload, 1) := by decide +kernel
theorem dJ2_getChar_3b067_38 : decode cJ2_getChar_3b067 38 = .ok (.sipush 255, 3) := by decide +kernel
theorem dJ2_getChar_3b067_41 : decode cJ2_getChar_3b067 41 = .ok (.iand, 1) := by decide +kernel
theorem dJ2_getChar_3b067_42 : decode cJ2_getChar_3b067 42 = .ok (.getstatic 59, 3) := by decide +kernel
theorem dJ2_getChar_3b067_45 : decode cJ2_getChar_3b067 45 = .ok (.ishl, 1) := by decide +kernel
theorem dJ2_getChar_3b067_46 : decode cJ2_getChar_3b067 46 = .ok (.aload_n 0, 1) := by decide +kernel
theorem dJ2_getChar_3b067_47 : decode cJ2_getChar_3b067 47 = .ok (.iload_n 1, 1) := by decide +kernel
theorem dJ2_getChar_3b067_48 : decode cJ2_getChar_3b067 48 = .ok (.baload, 1) := by decide +kernel
theorem dJ2_getChar_3b067_49 : decode cJ2_getChar_3b067 49 = .ok (.sipush 255, 3) := by decide +kernel
theorem dJ2_getChar_3b067_52 : decode cJ2_getChar_3b067 52 = .ok (.iand, 1) := by decide +kernel
theorem dJ2_getChar_3b067_53 : decode cJ2_getChar_3b067 53 = .ok (.getstatic 63, 3) := by decide +kernel
theorem dJ2_getChar_3b067_56 : decode cJ2_getChar_3b067 56 = .ok (.ishl, 1) := by decide +kernel
theorem dJ2_getChar_3b067_57 : decode cJ2_getChar_3b067 57 = .ok (.ior, 1) := by decide +kernel
theorem dJ2_getChar_3b067_58 : decode cJ2_getChar_3b067 58 = .ok (.i2c, 1) := by decide +kernel
theorem dJ2_getChar_3b067_59 : decode cJ2_getChar_3b067 59 = .ok (.ireturn, 1) := by decide +kernel
theorem dJ2_length_9d52b_0 : decode cJ2_length_9d52b 0 = .ok (.aload_n 0, 1) := by decide +kernel
theorem dJ2_length_9d52b_1 : decode cJ2_length_9d52b 1 = .ok (.arraylength, 1) := by decide +kernel
theorem dJ2_length_9d52b_2 : decode cJ2_length_9d52b 2 = .ok (.iconst 1, 1) := by decide +kernel
theorem dJ2_length_9d52b_3 : decode cJ2_length_9d52b 3 = .ok (.ishr, 1) := by decide +kernel
theorem dJ2_length_9d52b_4 : decode cJ2_length_9d52b 4 = .ok (.ireturn, 1) := by decide +kernel
theorem dJ2_charAt_3b067_0 : decode cJ2_charAt_3b067 0 = .ok (.iload_n 1, 1) := by decide +kernel
theorem dJ2_charAt_3b067_1 : decode cJ2_charAt_3b067 1 = .ok (.aload_n 0, 1) := by decide +kernel
theorem dJ2_charAt_3b067_2 : decode cJ2_charAt_3b067 2 = .ok (.invokestatic 67, 3) := by decide +kernel
theorem dJ2_charAt_3b067_5 : decode cJ2_charAt_3b067 5 = .ok (.aload_n 0, 1) := by decide +kernel
theorem dJ2_charAt_3b067_6 : decode cJ2_charAt_3b067 6 = .ok (.iload_n 1, 1) := by decide +kernel
theorem dJ2_charAt_3b067_7 : decode cJ2_charAt_3b067 7 = .ok (.invokestatic 71, 3) := by decide +kernel
theorem dJ2_charAt_3b067_10 : decode cJ2_charAt_3b067 10 = .ok (.ireturn, 1) := by decide +kernel
theorem dJ2_checkIndex_2214a_0 : decode cJ2_checkIndex_2214a 0 = .ok (.iload_n 0, 1) := by decide +kernel
theorem dJ2_checkIndex_2214a_1 : decode cJ2_checkIndex_2214a 1 = .ok (.aload_n 1, 1) := by decide +kernel
theorem dJ2_checkIndex_2214a_2 : decode cJ2_checkIndex_2214a 2 = .ok (.invokestatic 48, 3) := by decide +kernel
theorem dJ2_checkIndex_2214a_5 : decode cJ2_checkIndex_2214a 5 = .ok (.invokestatic 414, 3) := by decide +kernel
theorem dJ2_checkIndex_2214a_8 : decode cJ2_checkIndex_2214a 8 = .ok (.return_, 1) := by decide +kernel
theorem dJ3_checkIndex_8e157_0 : decode cJ3_checkIndex_8e157 0 = .ok (.iload_n 0, 1) := by decide +kernel
theorem dJ3_checkIndex_8e157_1 : decode cJ3_checkIndex_8e157 1 = .ok (.ifCond .lt 8, 3) := by decide +kernel
theorem dJ3_checkIndex_8e157_4 : decode cJ3_checkIndex_8e157 4 = .ok (.iload_n 0, 1) := by decide +kernel
theorem dJ3_checkIndex_8e157_5 : decode cJ3_checkIndex_8e157 5 = .ok (.iload_n 1, 1) := by decide +kernel
theorem dJ3_checkIndex_8e157_6 : decode cJ3_checkIndex_8e157 6 = .ok (.if_icmp .lt 10, 3) := by decide +kernel
theorem dJ3_checkIndex_8e157_9 : decode cJ3_checkIndex_8e157 9 = .ok (.aload_n 2, 1) := by decide +kernel
theorem dJ3_checkIndex_8e157_10 : decode cJ3_checkIndex_8e157 10 = .ok (.iload_n 0, 1) := by decide +kernel
theorem dJ3_checkIndex_8e157_11 : decode cJ3_checkIndex_8e157 11 = .ok (.iload_n 1, 1) := by decide +kernel
theorem dJ3_checkIndex_8e157_12 : decode cJ3_checkIndex_8e157 12 = .ok (.invokestatic 95, 3) := by decide +kernel
theorem dJ3_checkIndex_8e157_15 : decode cJ3_checkIndex_8e157 15 = .ok (.athrow, 1) := by decide +kernel
theorem dJ3_checkIndex_8e157_16 : decode cJ3_checkIndex_8e157 16 = .ok (.iload_n 0, 1) := by decide +kernel
theorem dJ3_checkIndex_8e157_17 : decode cJ3_checkIndex_8e157 17 = .ok (.ireturn, 1) := by decide +kernel
theorem dL_law_0 : decode cL_law 0 = .ok (.new 7, 3) := by decide +kernel
theorem dL_law_3 : decode cL_law 3 = .ok (.dup, 1) := by decide +kernel
theorem dL_law_4 : decode cL_law 4 = .ok (.invokespecial 9, 3) := by decide +kernel
theorem dL_law_7 : decode cL_law 7 = .ok (.astore_n 1, 1) := by decide +kernel
theorem dL_law_8 : decode cL_law 8 = .ok (.new 10, 3) := by decide +kernel
theorem dL_law_11 : decode cL_law 11 = .ok (.dup, 1) := by decide +kernel
theorem dL_law_12 : decode cL_law 12 = .ok (.invokespecial 12, 3) := by decide +kernel
theorem dL_law_15 : decode cL_law 15 = .ok (.astore_n 2, 1) := by decide +kernel
theorem dL_law_16 : decode cL_law 16 = .ok (.iconst 0, 1) := by decide +kernel
theorem dL_law_17 : decode cL_law 17 = .ok (.istore_n 3, 1) := by decide +kernel
theorem dL_law_18 : decode cL_law 18 = .ok (.iload_n 3, 1) := by decide +kernel
theorem dL_law_19 : decode cL_law 19 = .ok (.aload_n 0, 1) := by decide +kernel
theorem dL_law_20 : decode cL_law 20 = .ok (.arraylength, 1) := by decide +kernel
theorem dL_law_21 : decode cL_law 21 = .ok (.iconst 3, 1) := by decide +kernel
theorem dL_law_22 : decode cL_law 22 = .ok (.isub, 1) := by decide +kernel
theorem dL_law_23 : decode cL_law 23 = .ok (.if_icmp .gt 608, 3) := by decide +kernel
theorem dL_law_26 : decode cL_law 26 = .ok (.aload_n 0, 1) := by decide +kernel
theorem dL_law_27 : decode cL_law 27 = .ok (.iload_n 3, 1) := by decide +kernel
theorem dL_law_28 : decode cL_law 28 = .ok (.iaload, 1) := by decide +kernel
theorem dL_law_29 : decode cL_law 29 = .ok (.bipush 31, 2) := by decide +kernel
theorem dL_law_31 : decode cL_law 31 = .ok (.iand, 1) := by decide +kernel
theorem dL_law_32 : decode cL_law 32 = .ok (.tableswitch 593 0 20 #[100, 123, 136, 149, 182, 205, 228, 251, 264, 297, 330, 363, 386, 409, 442, 455, 488, 501, 524, 547, 570], 100) := by decide +kernel
theorem dL_law_132 : decode cL_law 132 = .ok (.aload_n 1, 1) := by decide +kernel
theorem dL_law_133 : decode cL_law 133 = .ok (.aload_n 0, 1) := by decide +kernel
theorem dL_law_134 : decode cL_law 134 = .ok (.iload_n 3, 1) := by decide +kernel
theorem dL_law_135 : decode cL_law 135 = .ok (.iconst 1, 1) := by decide +kernel
theorem dL_law_136 : decode cL_law 136 = .ok (.iadd, 1) := by decide +kernel
theorem dL_law_137 : decode cL_law 137 = .ok (.iaload, 1) := by decide +kernel
theorem dL_law_138 : decode cL_law 138 = .ok (.invokevirtual 13, 3) := by decide +kernel
theorem dL_law_141 : decode cL_law 141 = .ok (.aload_n 2, 1) := by decide +kernel
theorem dL_law_142 : decode cL_law 142 = .ok (.aload_n 0, 1) := by decide +kernel
theorem dL_law_143 : decode cL_law 143 = .ok (.iload_n 3, 1) := by decide +kernel
theorem dL_law_144 : decode cL_law 144 = .ok (.iconst 1, 1) := by decide +kernel
theorem dL_law_145 : decode cL_law 145 = .ok (.iadd, 1) := by decide +kernel
theorem dL_law_146 : decode cL_law 146 = .ok (.iaload, 1) := by decide +kernel
theorem dL_law_147 : decode cL_law 147 = .ok (.invokevirtual 17, 3) := by decide +kernel
theorem dL_law_150 : decode cL_law 150 = .ok (.if_icmp .eq 475, 3) := by decide +kernel
theorem dL_law_153 : decode cL_law 153 = .ok (.iconst 0, 1) := by decide +kernel
theorem dL_law_154 : decode cL_law 154 = .ok (.ireturn, 1) := by decide +kernel
theorem dL_law_155 : decode cL_law 155 = .ok (.aload_n 1, 1) := by decide +kernel
theorem dL_law_156 : decode cL_law 156 = .ok (.invokevirtual 18, 3) := by decide +kernel
theorem dL_law_159 : decode cL_law 159 = .ok (.aload_n 2, 1) := by decide +kernel
theorem dL_law_160 : decode cL_law 160 = .ok (.invokevirtual 22, 3) := by decide +kernel
theorem dL_law_163 : decode cL_law 163 = .ok (.if_icmp .eq 462, 3) := by decide +kernel
theorem dL_law_166 : decode cL_law 166 = .ok (.iconst 0, 1) := by decide +kernel
theorem dL_law_167 : decode cL_law 167 = .ok (.ireturn, 1) := by decide +kernel
theorem dL_law_168 : decode cL_law 168 = .ok (.aload_n 1, 1) := by decide +kernel
theorem dL_law_169 : decode cL_law 169 = .ok (.invokevirtual 23, 3) := by decide +kernel
theorem dL_law_172 : decode cL_law 172 = .ok (.aload_n 2, 1) := by decide +kernel
theorem dL_law_173 : decode cL_law 173 = .ok (.invokevirtual 26, 3) := by decide +kernel
theorem dL_law_176 : decode cL_law 176 = .ok (.if_icmp .eq 449, 3) := by decide +kernel
theorem dL_law_179 : decode cL_law 179 = .ok (.iconst 0, 1) := by decide +kernel
theorem dL_law_180 : decode cL_law 180 = .ok (.ireturn, 1) := by decide +kernel
theorem dL_law_181 : decode cL_law 181 = .ok (.aload_n 1, 1) := by decide +kernel
theorem dL_law_182 : decode cL_law 182 = .ok (.aload_n 0, 1) := by decide +kernel
theorem dL_law_183 : decode cL_law 183 = .ok (.iload_n 3, 1) := by decide +kernel
theorem dL_law_184 : decode cL_law 184 = .ok (.iconst 1, 1) := by decide +kernel
theorem dL_law_185 : decode cL_law 185 = .ok (.iadd, 1) := by decide +kernel
theorem dL_law_186 : decode cL_law 186 = .ok (.iaload, 1) := by decide +kernel
theorem dL_law_187 : decode cL_law 187 = .ok (.aload_n 0, 1) := by decide +kernel
theorem dL_law_188 : decode cL_law 188 = .ok (.iload_n 3, 1) := by decide +kernel
theorem dL_law_189 : decode cL_law 189 = .ok (.iconst 2, 1) := by decide +kernel
theorem dL_law_190 : decode cL_law 190 = .ok (.iadd, 1) := by decide +kernel
theorem dL_law_191 : decode cL_law 191 = .ok (.iaload, 1) := by decide +kernel
theorem dL_law_192 : decode cL_law 192 = .ok (.invokevirtual 27, 3) := by decide +kernel
theorem dL_law_195 : decode cL_law 195 = .ok (.aload_n 2, 1) := by decide +kernel
theorem dL_law_196 : decode cL_law 196 = .ok (.aload_n 0, 1) := by decide +kernel
theorem dL_law_197 : decode cL_law 197 = .ok (.iload_n 3, 1) := by decide +kernel
theorem dL_law_198 : decode cL_law 198 = .ok (.iconst 1, 1) := by decide +kernel
theorem dL_law_199 : decode cL_law 199 = .ok (.iadd, 1) := by decide +kernel
theorem dL_law_200 : decode cL_law 200 = .ok (.iaload, 1) := by decide +kernel
theorem dL_law_201 : decode cL_law 201 = .ok (.aload_n 0, 1) := by decide +kernel
theorem dL_law_202 : decode cL_law 202 = .ok (.iload_n 3, 1) := by decide +kernel
theorem dL_law_203 : decode cL_law 203 = .ok (.iconst 2, 1) := by decide +kernel
theorem dL_law_204 : decode cL_law 204 = .ok (.iadd, 1) := by decide +kernel
theorem dL_law_205 : decode cL_law 205 = .ok (.iaload, 1) := by decide +kernel
theorem dL_law_206 : decode cL_law 206 = .ok (.invokevirtual 31, 3) := by decide +kernel
theorem dL_law_209 : decode cL_law 209 = .ok (.if_icmp .eq 416, 3) := by decide +kernel
theorem dL_law_212 : decode cL_law 212 = .ok (.iconst 0, 1) := by decide +kernel
theorem dL_law_213 : decode cL_law 213 = .ok (.ireturn, 1) := by decide +kernel
theorem dL_law_214 : decode cL_law 214 = .ok (.aload_n 1, 1) := by decide +kernel
theorem dL_law_215 : decode cL_law 215 = .ok (.aload_n 0, 1) := by decide +kernel
theorem dL_law_216 : decode cL_law 216 = .ok (.iload_n 3, 1) := by decide +kernel
theorem dL_law_217 : decode cL_law 217 = .ok (.iconst 1, 1) := by decide +kernel
theorem dL_law_218 : decode cL_law 218 = .ok (.iadd, 1) := by decide +kernel
theorem dL_law_219 : decode cL_law 219 = .ok (.iaload, 1) := by decide +kernel
theorem dL_law_220 : decode cL_law 220 = .ok (.invokevirtual 32, 3) := by decide +kernel
theorem dL_law_223 : decode cL_law 223 = .ok (.aload_n 2, 1) := by decide +kernel
theorem dL_law_224 : decode cL_law 224 = .ok (.aload_n 0, 1) := by decide +kernel
theorem dL_law_225 : decode cL_law 225 = .ok (.iload_n 3, 1) := by decide +kernel
theorem dL_law_226 : decode cL_law 226 = .ok (.iconst 1, 1) := by decide +kernel
theorem dL_law_227 : decode cL_law 227 = .ok (.iadd, 1) := by decide +kernel
theorem dL_law_228 : decode cL_law 228 = .ok (.iaload, 1) := by decide +kernel
theorem dL_law_229 : decode cL_law 229 = .ok (.invokevirtual 35, 3) := by decide +kernel
theorem dL_law_232 : decode cL_law 232 = .ok (.if_icmp .eq 393, 3) := by decide +kernel
theorem dL_law_235 : decode cL_law 235 = .ok (.iconst 0, 1) := by decide +kernel
theorem dL_law_236 : decode cL_law 236 = .ok (.ireturn, 1) := by decide +kernel
theorem dL_law_237 : decode cL_law 237 = .ok (.aload_n 1, 1) := by decide +kernel
theorem dL_law_238 : decode cL_law 238 = .ok (.aload_n 0, 1) := by decide +kernel
theorem dL_law_239 : decode cL_law 239 = .ok (.iload_n 3, 1) := by decide +kernel
theorem dL_law_240 : decode cL_law 240 = .ok (.iconst 1, 1) := by decide +kernel
theorem dL_law_241 : decode cL_law 241 = .ok (.iadd, 1) := by decide +kernel
theorem dL_law_242 : decode cL_law 242 = .ok (.iaload, 1) := by decide +kernel
theorem dL_law_243 : decode cL_law 243 = .ok (.invokevirtual 36, 3) := by decide +kernel
theorem dL_law_246 : decode cL_law 246 = .ok (.aload_n 2, 1) := by decide +kernel
theorem dL_law_247 : decode cL_law 247 = .ok (.aload_n 0, 1) := by decide +kernel
theorem dL_law_248 : decode cL_law 248 = .ok (.iload_n 3, 1) := by decide +kernel
theorem dL_law_249 : decode cL_law 249 = .ok (.iconst 1, 1) := by decide +kernel
theorem dL_law_250 : decode cL_law 250 = .ok (.iadd, 1) := by decide +kernel
theorem dL_law_251 : decode cL_law 251 = .ok (.iaload, 1) := by decide +kernel
theorem dL_law_252 : decode cL_law 252 = .ok (.invokevirtual 39, 3) := by decide +kernel
theorem dL_law_255 : decode cL_law 255 = .ok (.if_icmp .eq 370, 3) := by decide +kernel
theorem dL_law_258 : decode cL_law 258 = .ok (.iconst 0, 1) := by decide +kernel
theorem dL_law_259 : decode cL_law 259 = .ok (.ireturn, 1) := by decide +kernel
theorem dL_law_260 : decode cL_law 260 = .ok (.aload_n 1, 1) := by decide +kernel
theorem dL_law_261 : decode cL_law 261 = .ok (.aload_n 0, 1) := by decide +kernel
theorem dL_law_262 : decode cL_law 262 = .ok (.iload_n 3, 1) := by decide +kernel
theorem dL_law_263 : decode cL_law 263 = .ok (.iconst 1, 1) := by decide +kernel
theorem dL_law_264 : decode cL_law 264 = .ok (.iadd, 1) := by decide +kernel
theorem dL_law_265 : decode cL_law 265 = .ok (.iaload, 1) := by decide +kernel
theorem dL_law_266 : decode cL_law 266 = .ok (.invokevirtual 40, 3) := by decide +kernel
theorem dL_law_269 : decode cL_law 269 = .ok (.aload_n 2, 1) := by decide +kernel
theorem dL_law_270 : decode cL_law 270 = .ok (.aload_n 0, 1) := by decide +kernel
theorem dL_law_271 : decode cL_law 271 = .ok (.iload_n 3, 1) := by decide +kernel
theorem dL_law_272 : decode cL_law 272 = .ok (.iconst 1, 1) := by decide +kernel
theorem dL_law_273 : decode cL_law 273 = .ok (.iadd, 1) := by decide +kernel
theorem dL_law_274 : decode cL_law 274 = .ok (.iaload, 1) := by decide +kernel
theorem dL_law_275 : decode cL_law 275 = .ok (.invokevirtual 43, 3) := by decide +kernel
theorem dL_law_278 : decode cL_law 278 = .ok (.if_icmp .eq 347, 3) := by decide +kernel
theorem dL_law_281 : decode cL_law 281 = .ok (.iconst 0, 1) := by decide +kernel
theorem dL_law_282 : decode cL_law 282 = .ok (.ireturn, 1) := by decide +kernel
theorem dL_law_283 : decode cL_law 283 = .ok (.aload_n 1, 1) := by decide +kernel
theorem dL_law_284 : decode cL_law 284 = .ok (.invokevirtual 44, 3) := by decide +kernel
theorem dL_law_287 : decode cL_law 287 = .ok (.aload_n 2, 1) := by decide +kernel
theorem dL_law_288 : decode cL_law 288 = .ok (.invokevirtual 47, 3) := by decide +kernel
theorem dL_law_291 : decode cL_law 291 = .ok (.if_icmp .eq 334, 3) := by decide +kernel
theorem dL_law_294 : decode cL_law 294 = .ok (.iconst 0, 1) := by decide +kernel
theorem dL_law_295 : decode cL_law 295 = .ok (.ireturn, 1) := by decide +kernel
theorem dL_law_296 : decode cL_law 296 = .ok (.aload_n 1, 1) := by decide +kernel
theorem dL_law_297 : decode cL_law 297 = .ok (.aload_n 0, 1) := by decide +kernel
theorem dL_law_298 : decode cL_law 298 = .ok (.iload_n 3, 1) := by decide +kernel
theorem dL_law_299 : decode cL_law 299 = .ok (.iconst 1, 1) := by decide +kernel
theorem dL_law_300 : decode cL_law 300 = .ok (.iadd, 1) := by decide +kernel
theorem dL_law_301 : decode cL_law 301 = .ok (.iaload, 1) := by decide +kernel
theorem dL_law_302 : decode cL_law 302 = .ok (.aload_n 0, 1) := by decide +kernel
theorem dL_law_303 : decode cL_law 303 = .ok (.iload_n 3, 1) := by decide +kernel
theorem dL_law_304 : decode cL_law 304 = .ok (.iconst 2, 1) := by decide +kernel
theorem dL_law_305 : decode cL_law 305 = .ok (.iadd, 1) := by decide +kernel
theorem dL_law_306 : decode cL_law 306 = .ok (.iaload, 1) := by decide +kernel
theorem dL_law_307 : decode cL_law 307 = .ok (.invokevirtual 48, 3) := by decide +kernel
theorem dL_law_310 : decode cL_law 310 = .ok (.aload_n 2, 1) := by decide +kernel
theorem dL_law_311 : decode cL_law 311 = .ok (.aload_n 0, 1) := by decide +kernel
theorem dL_law_312 : decode cL_law 312 = .ok (.iload_n 3, 1) := by decide +kernel
theorem dL_law_313 : decode cL_law 313 = .ok (.iconst 1, 1) := by decide +kernel
theorem dL_law_314 : decode cL_law 314 = .ok (.iadd, 1) := by decide +kernel
theorem dL_law_315 : decode cL_law 315 = .ok (.iaload, 1) := by decide +kernel
theorem dL_law_316 : decode cL_law 316 = .ok (.aload_n 0, 1) := by decide +kernel
theorem dL_law_317 : decode cL_law 317 = .ok (.iload_n 3, 1) := by decide +kernel
theorem dL_law_318 : decode cL_law 318 = .ok (.iconst 2, 1) := by decide +kernel
theorem dL_law_319 : decode cL_law 319 = .ok (.iadd, 1) := by decide +kernel
theorem dL_law_320 : decode cL_law 320 = .ok (.iaload, 1) := by decide +kernel
theorem dL_law_321 : decode cL_law 321 = .ok (.invokevirtual 51, 3) := by decide +kernel
theorem dL_law_324 : decode cL_law 324 = .ok (.if_icmp .eq 301, 3) := by decide +kernel
theorem dL_law_327 : decode cL_law 327 = .ok (.iconst 0, 1) := by decide +kernel
theorem dL_law_328 : decode cL_law 328 = .ok (.ireturn, 1) := by decide +kernel
theorem dL_law_329 : decode cL_law 329 = .ok (.aload_n 1, 1) := by decide +kernel
theorem dL_law_330 : decode cL_law 330 = .ok (.aload_n 0, 1) := by decide +kernel
theorem dL_law_331 : decode cL_law 331 = .ok (.iload_n 3, 1) := by decide +kernel
theorem dL_law_332 : decode cL_law 332 = .ok (.iconst 1, 1) := by decide +kernel
theorem dL_law_333 : decode cL_law 333 = .ok (.iadd, 1) := by decide +kernel
theorem dL_law_334 : decode cL_law 334 = .ok (.iaload, 1) := by decide +kernel
theorem dL_law_335 : decode cL_law 335 = .ok (.aload_n 0, 1) := by decide +kernel
theorem dL_law_336 : decode cL_law 336 = .ok (.iload_n 3, 1) := by decide +kernel
theorem dL_law_337 : decode cL_law 337 = .ok (.iconst 2, 1) := by decide +kernel
theorem dL_law_338 : decode cL_law 338 = .ok (.iadd, 1) := by decide +kernel
theorem dL_law_339 : decode cL_law 339 = .ok (.iaload, 1) := by decide +kernel
theorem dL_law_340 : decode cL_law 340 = .ok (.invokevirtual 52, 3) := by decide +kernel
theorem dL_law_343 : decode cL_law 343 = .ok (.aload_n 2, 1) := by decide +kernel
theorem dL_law_344 : decode cL_law 344 = .ok (.aload_n 0, 1) := by decide +kernel
theorem dL_law_345 : decode cL_law 345 = .ok (.iload_n 3, 1) := by decide +kernel
theorem dL_law_346 : decode cL_law 346 = .ok (.iconst 1, 1) := by decide +kernel
theorem dL_law_347 : decode cL_law 347 = .ok (.iadd, 1) := by decide +kernel
theorem dL_law_348 : decode cL_law 348 = .ok (.iaload, 1) := by decide +kernel
theorem dL_law_349 : decode cL_law 349 = .ok (.aload_n 0, 1) := by decide +kernel
theorem dL_law_350 : decode cL_law 350 = .ok (.iload_n 3, 1) := by decide +kernel
theorem dL_law_351 : decode cL_law 351 = .ok (.iconst 2, 1) := by decide +kernel
theorem dL_law_352 : decode cL_law 352 = .ok (.iadd, 1) := by decide +kernel
theorem dL_law_353 : decode cL_law 353 = .ok (.iaload, 1) := by decide +kernel
theorem dL_law_354 : decode cL_law 354 = .ok (.invokevirtual 55, 3) := by decide +kernel
theorem dL_law_357 : decode cL_law 357 = .ok (.if_icmp .eq 268, 3) := by decide +kernel
theorem dL_law_360 : decode cL_law 360 = .ok (.iconst 0, 1) := by decide +kernel
theorem dL_law_361 : decode cL_law 361 = .ok (.ireturn, 1) := by decide +kernel
theorem dL_law_362 : decode cL_law 362 = .ok (.aload_n 1, 1) := by decide +kernel
theorem dL_law_363 : decode cL_law 363 = .ok (.aload_n 0, 1) := by decide +kernel
theorem dL_law_364 : decode cL_law 364 = .ok (.iload_n 3, 1) := by decide +kernel
theorem dL_law_365 : decode cL_law 365 = .ok (.iconst 1, 1) := by decide +kernel
theorem dL_law_366 : decode cL_law 366 = .ok (.iadd, 1) := by decide +kernel
theorem dL_law_367 : decode cL_law 367 = .ok (.iaload, 1) := by decide +kernel
theorem dL_law_368 : decode cL_law 368 = .ok (.aload_n 0, 1) := by decide +kernel
theorem dL_law_369 : decode cL_law 369 = .ok (.iload_n 3, 1) := by decide +kernel
theorem dL_law_370 : decode cL_law 370 = .ok (.iconst 2, 1) := by decide +kernel
theorem dL_law_371 : decode cL_law 371 = .ok (.iadd, 1) := by decide +kernel
theorem dL_law_372 : decode cL_law 372 = .ok (.iaload, 1) := by decide +kernel
theorem dL_law_373 : decode cL_law 373 = .ok (.invokevirtual 56, 3) := by decide +kernel
theorem dL_law_376 : decode cL_law 376 = .ok (.aload_n 2, 1) := by decide +kernel
theorem dL_law_377 : decode cL_law 377 = .ok (.aload_n 0, 1) := by decide +kernel
theorem dL_law_378 : decode cL_law 378 = .ok (.iload_n 3, 1) := by decide +kernel
theorem dL_law_379 : decode cL_law 379 = .ok (.iconst 1, 1) := by decide +kernel
theorem dL_law_380 : decode cL_law 380 = .ok (.iadd, 1) := by decide +kernel
theorem dL_law_381 : decode cL_law 381 = .ok (.iaload, 1) := by decide +kernel
theorem dL_law_382 : decode cL_law 382 = .ok (.aload_n 0, 1) := by decide +kernel
theorem dL_law_383 : decode cL_law 383 = .ok (.iload_n 3, 1) := by decide +kernel
theorem dL_law_384 : decode cL_law 384 = .ok (.iconst 2, 1) := by decide +kernel
theorem dL_law_385 : decode cL_law 385 = .ok (.iadd, 1) := by decide +kernel
theorem dL_law_386 : decode cL_law 386 = .ok (.iaload, 1) := by decide +kernel
theorem dL_law_387 : decode cL_law 387 = .ok (.invokevirtual 59, 3) := by decide +kernel
theorem dL_law_390 : decode cL_law 390 = .ok (.if_icmp .eq 235, 3) := by decide +kernel
theorem dL_law_393 : decode cL_law 393 = .ok (.iconst 0, 1) := by decide +kernel
theorem dL_law_394 : decode cL_law 394 = .ok (.ireturn, 1) := by decide +kernel
theorem dL_law_395 : decode cL_law 395 = .ok (.aload_n 1, 1) := by decide +kernel
theorem dL_law_396 : decode cL_law 396 = .ok (.aload_n 0, 1) := by decide +kernel
theorem dL_law_397 : decode cL_law 397 = .ok (.iload_n 3, 1) := by decide +kernel
theorem dL_law_398 : decode cL_law 398 = .ok (.iconst 1, 1) := by decide +kernel
theorem dL_law_399 : decode cL_law 399 = .ok (.iadd, 1) := by decide +kernel
theorem dL_law_400 : decode cL_law 400 = .ok (.iaload, 1) := by decide +kernel
theorem dL_law_401 : decode cL_law 401 = .ok (.invokevirtual 60, 3) := by decide +kernel
theorem dL_law_404 : decode cL_law 404 = .ok (.aload_n 2, 1) := by decide +kernel
theorem dL_law_405 : decode cL_law 405 = .ok (.aload_n 0, 1) := by decide +kernel
theorem dL_law_406 : decode cL_law 406 = .ok (.iload_n 3, 1) := by decide +kernel
theorem dL_law_407 : decode cL_law 407 = .ok (.iconst 1, 1) := by decide +kernel
theorem dL_law_408 : decode cL_law 408 = .ok (.iadd, 1) := by decide +kernel
theorem dL_law_409 : decode cL_law 409 = .ok (.iaload, 1) := by decide +kernel
theorem dL_law_410 : decode cL_law 410 = .ok (.invokevirtual 63, 3) := by decide +kernel
theorem dL_law_413 : decode cL_law 413 = .ok (.if_icmp .eq 212, 3) := by decide +kernel
theorem dL_law_416 : decode cL_law 416 = .ok (.iconst 0, 1) := by decide +kernel
theorem dL_law_417 : decode cL_law 417 = .ok (.ireturn, 1) := by decide +kernel
theorem dL_law_418 : decode cL_law 418 = .ok (.aload_n 1, 1) := by decide +kernel
theorem dL_law_419 : decode cL_law 419 = .ok (.aload_n 0, 1) := by decide +kernel
theorem dL_law_420 : decode cL_law 420 = .ok (.iload_n 3, 1) := by decide +kernel
theorem dL_law_421 : decode cL_law 421 = .ok (.iconst 1, 1) := by decide +kernel
theorem dL_law_422 : decode cL_law 422 = .ok (.iadd, 1) := by decide +kernel
theorem dL_law_423 : decode cL_law 423 = .ok (.iaload, 1) := by decide +kernel
theorem dL_law_424 : decode cL_law 424 = .ok (.invokevirtual 64, 3) := by decide +kernel
theorem dL_law_427 : decode cL_law 427 = .ok (.aload_n 2, 1) := by decide +kernel
theorem dL_law_428 : decode cL_law 428 = .ok (.aload_n 0, 1) := by decide +kernel
theorem dL_law_429 : decode cL_law 429 = .ok (.iload_n 3, 1) := by decide +kernel
theorem dL_law_430 : decode cL_law 430 = .ok (.iconst 1, 1) := by decide +kernel
theorem dL_law_431 : decode cL_law 431 = .ok (.iadd, 1) := by decide +kernel
theorem dL_law_432 : decode cL_law 432 = .ok (.iaload, 1) := by decide +kernel
theorem dL_law_433 : decode cL_law 433 = .ok (.invokevirtual 67, 3) := by decide +kernel
theorem dL_law_436 : decode cL_law 436 = .ok (.if_icmp .eq 189, 3) := by decide +kernel
theorem dL_law_439 : decode cL_law 439 = .ok (.iconst 0, 1) := by decide +kernel
theorem dL_law_440 : decode cL_law 440 = .ok (.ireturn, 1) := by decide +kernel
theorem dL_law_441 : decode cL_law 441 = .ok (.aload_n 1, 1) := by decide +kernel
theorem dL_law_442 : decode cL_law 442 = .ok (.aload_n 0, 1) := by decide +kernel
theorem dL_law_443 : decode cL_law 443 = .ok (.iload_n 3, 1) := by decide +kernel
theorem dL_law_444 : decode cL_law 444 = .ok (.iconst 1, 1) := by decide +kernel
theorem dL_law_445 : decode cL_law 445 = .ok (.iadd, 1) := by decide +kernel
theorem dL_law_446 : decode cL_law 446 = .ok (.iaload, 1) := by decide +kernel
theorem dL_law_447 : decode cL_law 447 = .ok (.aload_n 0, 1) := by decide +kernel
theorem dL_law_448 : decode cL_law 448 = .ok (.iload_n 3, 1) := by decide +kernel
theorem dL_law_449 : decode cL_law 449 = .ok (.iconst 2, 1) := by decide +kernel
theorem dL_law_450 : decode cL_law 450 = .ok (.iadd, 1) := by decide +kernel
theorem dL_law_451 : decode cL_law 451 = .ok (.iaload, 1) := by decide +kernel
theorem dL_law_452 : decode cL_law 452 = .ok (.invokevirtual 68, 3) := by decide +kernel
theorem dL_law_455 : decode cL_law 455 = .ok (.aload_n 2, 1) := by decide +kernel
theorem dL_law_456 : decode cL_law 456 = .ok (.aload_n 0, 1) := by decide +kernel
theorem dL_law_457 : decode cL_law 457 = .ok (.iload_n 3, 1) := by decide +kernel
theorem dL_law_458 : decode cL_law 458 = .ok (.iconst 1, 1) := by decide +kernel
theorem dL_law_459 : decode cL_law 459 = .ok (.iadd, 1) := by decide +kernel
theorem dL_law_460 : decode cL_law 460 = .ok (.iaload, 1) := by decide +kernel
theorem dL_law_461 : decode cL_law 461 = .ok (.aload_n 0, 1) := by decide +kernel
theorem dL_law_462 : decode cL_law 462 = .ok (.iload_n 3, 1) := by decide +kernel
theorem dL_law_463 : decode cL_law 463 = .ok (.iconst 2, 1) := by decide +kernel
theorem dL_law_464 : decode cL_law 464 = .ok (.iadd, 1) := by decide +kernel
theorem dL_law_465 : decode cL_law 465 = .ok (.iaload, 1) := by decide +kernel
theorem dL_law_466 : decode cL_law 466 = .ok (.invokevirtual 71, 3) := by decide +kernel
theorem dL_law_469 : decode cL_law 469 = .ok (.if_icmp .eq 156, 3) := by decide +kernel
theorem dL_law_472 : decode cL_law 472 = .ok (.iconst 0, 1) := by decide +kernel
theorem dL_law_473 : decode cL_law 473 = .ok (.ireturn, 1) := by decide +kernel
theorem dL_law_474 : decode cL_law 474 = .ok (.aload_n 1, 1) := by decide +kernel
theorem dL_law_475 : decode cL_law 475 = .ok (.invokevirtual 72, 3) := by decide +kernel
theorem dL_law_478 : decode cL_law 478 = .ok (.aload_n 2, 1) := by decide +kernel
theorem dL_law_479 : decode cL_law 479 = .ok (.invokevirtual 75, 3) := by decide +kernel
theorem dL_law_482 : decode cL_law 482 = .ok (.if_icmp .eq 143, 3) := by decide +kernel
theorem dL_law_485 : decode cL_law 485 = .ok (.iconst 0, 1) := by decide +kernel
theorem dL_law_486 : decode cL_law 486 = .ok (.ireturn, 1) := by decide +kernel
theorem dL_law_487 : decode cL_law 487 = .ok (.aload_n 1, 1) := by decide +kernel
theorem dL_law_488 : decode cL_law 488 = .ok (.aload_n 0, 1) := by decide +kernel
theorem dL_law_489 : decode cL_law 489 = .ok (.iload_n 3, 1) := by decide +kernel
theorem dL_law_490 : decode cL_law 490 = .ok (.iconst 1, 1) := by decide +kernel
theorem dL_law_491 : decode cL_law 491 = .ok (.iadd, 1) := by decide +kernel
theorem dL_law_492 : decode cL_law 492 = .ok (.iaload, 1) := by decide +kernel
theorem dL_law_493 : decode cL_law 493 = .ok (.aload_n 0, 1) := by decide +kernel
theorem dL_law_494 : decode cL_law 494 = .ok (.iload_n 3, 1) := by decide +kernel
theorem dL_law_495 : decode cL_law 495 = .ok (.iconst 2, 1) := by decide +kernel
theorem dL_law_496 : decode cL_law 496 = .ok (.iadd, 1) := by decide +kernel
theorem dL_law_497 : decode cL_law 497 = .ok (.iaload, 1) := by decide +kernel
theorem dL_law_498 : decode cL_law 498 = .ok (.invokevirtual 76, 3) := by decide +kernel
theorem dL_law_501 : decode cL_law 501 = .ok (.aload_n 2, 1) := by decide +kernel
theorem dL_law_502 : decode cL_law 502 = .ok (.aload_n 0, 1) := by decide +kernel
theorem dL_law_503 : decode cL_law 503 = .ok (.iload_n 3, 1) := by decide +kernel
theorem dL_law_504 : decode cL_law 504 = .ok (.iconst 1, 1) := by decide +kernel
theorem dL_law_505 : decode cL_law 505 = .ok (.iadd, 1) := by decide +kernel
theorem dL_law_506 : decode cL_law 506 = .ok (.iaload, 1) := by decide +kernel
theorem dL_law_507 : decode cL_law 507 = .ok (.aload_n 0, 1) := by decide +kernel
theorem dL_law_508 : decode cL_law 508 = .ok (.iload_n 3, 1) := by decide +kernel
theorem dL_law_509 : decode cL_law 509 = .ok (.iconst 2, 1) := by decide +kernel
theorem dL_law_510 : decode cL_law 510 = .ok (.iadd, 1) := by decide +kernel
theorem dL_law_511 : decode cL_law 511 = .ok (.iaload, 1) := by decide +kernel
theorem dL_law_512 : decode cL_law 512 = .ok (.invokevirtual 79, 3) := by decide +kernel
theorem dL_law_515 : decode cL_law 515 = .ok (.if_icmp .eq 110, 3) := by decide +kernel
theorem dL_law_518 : decode cL_law 518 = .ok (.iconst 0, 1) := by decide +kernel
theorem dL_law_519 : decode cL_law 519 = .ok (.ireturn, 1) := by decide +kernel
theorem dL_law_520 : decode cL_law 520 = .ok (.aload_n 1, 1) := by decide +kernel
theorem dL_law_521 : decode cL_law 521 = .ok (.invokevirtual 80, 3) := by decide +kernel
theorem dL_law_524 : decode cL_law 524 = .ok (.aload_n 2, 1) := by decide +kernel
theorem dL_law_525 : decode cL_law 525 = .ok (.invokevirtual 83, 3) := by decide +kernel
theorem dL_law_528 : decode cL_law 528 = .ok (.if_icmp .eq 97, 3) := by decide +kernel
theorem dL_law_531 : decode cL_law 531 = .ok (.iconst 0, 1) := by decide +kernel
theorem dL_law_532 : decode cL_law 532 = .ok (.ireturn, 1) := by decide +kernel
theorem dL_law_533 : decode cL_law 533 = .ok (.aload_n 1, 1) := by decide +kernel
theorem dL_law_534 : decode cL_law 534 = .ok (.aload_n 0, 1) := by decide +kernel
theorem dL_law_535 : decode cL_law 535 = .ok (.iload_n 3, 1) := by decide +kernel
theorem dL_law_536 : decode cL_law 536 = .ok (.iconst 1, 1) := by decide +kernel
theorem dL_law_537 : decode cL_law 537 = .ok (.iadd, 1) := by decide +kernel
theorem dL_law_538 : decode cL_law 538 = .ok (.iaload, 1) := by decide +kernel
theorem dL_law_539 : decode cL_law 539 = .ok (.invokevirtual 84, 3) := by decide +kernel
theorem dL_law_542 : decode cL_law 542 = .ok (.aload_n 2, 1) := by decide +kernel
theorem dL_law_543 : decode cL_law 543 = .ok (.aload_n 0, 1) := by decide +kernel
theorem dL_law_544 : decode cL_law 544 = .ok (.iload_n 3, 1) := by decide +kernel
theorem dL_law_545 : decode cL_law 545 = .ok (.iconst 1, 1) := by decide +kernel
theorem dL_law_546 : decode cL_law 546 = .ok (.iadd, 1) := by decide +kernel
theorem dL_law_547 : decode cL_law 547 = .ok (.iaload, 1) := by decide +kernel
theorem dL_law_548 : decode cL_law 548 = .ok (.invokevirtual 87, 3) := by decide +kernel
theorem dL_law_551 : decode cL_law 551 = .ok (.if_icmp .eq 74, 3) := by decide +kernel
theorem dL_law_554 : decode cL_law 554 = .ok (.iconst 0, 1) := by decide +kernel
theorem dL_law_555 : decode cL_law 555 = .ok (.ireturn, 1) := by decide +kernel
theorem dL_law_556 : decode cL_law 556 = .ok (.aload_n 1, 1) := by decide +kernel
theorem dL_law_557 : decode cL_law 557 = .ok (.aload_n 0, 1) := by decide +kernel
theorem dL_law_558 : decode cL_law 558 = .ok (.iload_n 3, 1) := by decide +kernel
theorem dL_law_559 : decode cL_law 559 = .ok (.iconst 1, 1) := by decide +kernel
theorem dL_law_560 : decode cL_law 560 = .ok (.iadd, 1) := by decide +kernel
theorem dL_law_561 : decode cL_law 561 = .ok (.iaload, 1) := by decide +kernel
theorem dL_law_562 : decode cL_law 562 = .ok (.invokevirtual 88, 3) := by decide +kernel
theorem dL_law_565 : decode cL_law 565 = .ok (.aload_n 2, 1) := by decide +kernel
theorem dL_law_566 : decode cL_law 566 = .ok (.aload_n 0, 1) := by decide +kernel
theorem dL_law_567 : decode cL_law 567 = .ok (.iload_n 3, 1) := by decide +kernel
theorem dL_law_568 : decode cL_law 568 = .ok (.iconst 1, 1) := by decide +kernel
theorem dL_law_569 : decode cL_law 569 = .ok (.iadd, 1) := by decide +kernel
theorem dL_law_570 : decode cL_law 570 = .ok (.iaload, 1) := by decide +kernel
theorem dL_law_571 : decode cL_law 571 = .ok (.invokevirtual 91, 3) := by decide +kernel
theorem dL_law_574 : decode cL_law 574 = .ok (.if_icmp .eq 51, 3) := by decide +kernel
theorem dL_law_577 : decode cL_law 577 = .ok (.iconst 0, 1) := by decide +kernel
theorem dL_law_578 : decode cL_law 578 = .ok (.ireturn, 1) := by decide +kernel
theorem dL_law_579 : decode cL_law 579 = .ok (.aload_n 1, 1) := by decide +kernel
theorem dL_law_580 : decode cL_law 580 = .ok (.aload_n 0, 1) := by decide +kernel
theorem dL_law_581 : decode cL_law 581 = .ok (.iload_n 3, 1) := by decide +kernel
theorem dL_law_582 : decode cL_law 582 = .ok (.iconst 1, 1) := by decide +kernel
theorem dL_law_583 : decode cL_law 583 = .ok (.iadd, 1) := by decide +kernel
theorem dL_law_584 : decode cL_law 584 = .ok (.iaload, 1) := by decide +kernel
theorem dL_law_585 : decode cL_law 585 = .ok (.invokevirtual 92, 3) := by decide +kernel
theorem dL_law_588 : decode cL_law 588 = .ok (.aload_n 2, 1) := by decide +kernel
theorem dL_law_589 : decode cL_law 589 = .ok (.aload_n 0, 1) := by decide +kernel
theorem dL_law_590 : decode cL_law 590 = .ok (.iload_n 3, 1) := by decide +kernel
theorem dL_law_591 : decode cL_law 591 = .ok (.iconst 1, 1) := by decide +kernel
theorem dL_law_592 : decode cL_law 592 = .ok (.iadd, 1) := by decide +kernel
theorem dL_law_593 : decode cL_law 593 = .ok (.iaload, 1) := by decide +kernel
theorem dL_law_594 : decode cL_law 594 = .ok (.invokevirtual 95, 3) := by decide +kernel
theorem dL_law_597 : decode cL_law 597 = .ok (.if_icmp .eq 28, 3) := by decide +kernel
theorem dL_law_600 : decode cL_law 600 = .ok (.iconst 0, 1) := by decide +kernel
theorem dL_law_601 : decode cL_law 601 = .ok (.ireturn, 1) := by decide +kernel
theorem dL_law_602 : decode cL_law 602 = .ok (.aload_n 1, 1) := by decide +kernel
theorem dL_law_603 : decode cL_law 603 = .ok (.aload_n 0, 1) := by decide +kernel
theorem dL_law_604 : decode cL_law 604 = .ok (.iload_n 3, 1) := by decide +kernel
theorem dL_law_605 : decode cL_law 605 = .ok (.iconst 1, 1) := by decide +kernel
theorem dL_law_606 : decode cL_law 606 = .ok (.iadd, 1) := by decide +kernel
theorem dL_law_607 : decode cL_law 607 = .ok (.iaload, 1) := by decide +kernel
theorem dL_law_608 : decode cL_law 608 = .ok (.invokevirtual 96, 3) := by decide +kernel
theorem dL_law_611 : decode cL_law 611 = .ok (.aload_n 2, 1) := by decide +kernel
theorem dL_law_612 : decode cL_law 612 = .ok (.aload_n 0, 1) := by decide +kernel
theorem dL_law_613 : decode cL_law 613 = .ok (.iload_n 3, 1) := by decide +kernel
theorem dL_law_614 : decode cL_law 614 = .ok (.iconst 1, 1) := by decide +kernel
theorem dL_law_615 : decode cL_law 615 = .ok (.iadd, 1) := by decide +kernel
theorem dL_law_616 : decode cL_law 616 = .ok (.iaload, 1) := by decide +kernel
theorem dL_law_617 : decode cL_law 617 = .ok (.invokevirtual 99, 3) := by decide +kernel
theorem dL_law_620 : decode cL_law 620 = .ok (.if_icmp .eq 5, 3) := by decide +kernel
theorem dL_law_623 : decode cL_law 623 = .ok (.iconst 0, 1) := by decide +kernel
theorem dL_law_624 : decode cL_law 624 = .ok (.ireturn, 1) := by decide +kernel
theorem dL_law_625 : decode cL_law 625 = .ok (.iinc 3 3, 3) := by decide +kernel
theorem dL_law_628 : decode cL_law 628 = .ok (.goto (-610), 3) := by decide +kernel
theorem dL_law_631 : decode cL_law 631 = .ok (.iconst 1, 1) := by decide +kernel
theorem dL_law_632 : decode cL_law 632 = .ok (.ireturn, 1) := by decide +kernel
end
section
/-! The world behind the constructors: 136 cells; 28 holds the past walls in an order that changes. -/
def g0K : List Nat := [11, 0, 6, 9, 0, 0, 0, 10, 0, 0, 0, 0, 0, 0, 0, 0, 0, 10, 0, 0, 0, 0, 0, 0, 0, 0, 0, 5, 3, 10, 0, 0, 0, 0, 0, 0, 0, 0, 0, 10, 0, 0, 0, 0, 0, 0, 0, 0, 0, 10, 0, 0, 0, 0, 0, 0, 0, 0, 0, 10, 0, 0, 0, 0, 0, 0, 0, 0, 0, 10, 0, 0, 0, 0, 0, 0, 0, 0, 0, 10, 0, 0, 0, 0, 0, 0, 0, 0, 0, 7, 1, 1, 0, 0, 4, 0, 8, 0, 0, 3, 10, 0, 0, 0, 0, 0, 0, 0, 0, 0, 10, 0, 0, 0, 0, 0, 0, 0, 0, 0, 2, 12, 0, 0, 0, 0, 2, 0, 0, 0, 0, 0, 0, 2, 2, 0]
def g0L : List Nat := [0, 120, 0, 0, 121, 121, 121, 0, 5, 5, 5, 5, 5, 3, 3, 16, 16, 0, 5, 5, 5, 5, 5, 3, 3, 16, 16, 0, 6, 0, 5, 5, 5, 5, 5, 3, 3, 16, 16, 0, 5, 5, 5, 5, 5, 3, 3, 16, 16, 0, 5, 5, 5, 5, 5, 3, 3, 16, 16, 0, 5, 5, 5, 5, 5, 3, 3, 16, 16, 0, 5, 5, 5, 5, 5, 3, 3, 16, 16, 0, 5, 5, 5, 5, 5, 3, 3, 16, 16, 0, 5, 5, 5, 5, 0, 32, 0, 6, 6, 2, 0, 5, 5, 5, 5, 5, 3, 3, 16, 16, 0, 5, 5, 5, 5, 5, 3, 3, 16, 16, 2, 0, 69, 69, 414, 138, 2, 6, 6, 120, 5, 5, 4, 200, 200, 32]
def g0R : List (List (Option Nat)) := [[some 1, none, some 2, some 7, some 17, some 27, some 89, none, some 94, some 96, some 99, some 120], [], [some 3], [some 4, some 5, some 6], [], [], [], [none, none, none, none, none, none, some 8, some 9, some 10, some 11, some 12, some 13, some 14, some 15, some 16], [], [], [], [], [], [], [], [], [], [none, none, none, none, none, none, some 18, some 19, some 20, some 21, some 22, some 23, some 24, some 25, some 26], [], [], [], [], [], [], [], [], [], [some 28], [], [none, none, none, none, none, none, some 30, some 31, some 32, some 33, some 34, some 35, some 36, some 37, some 38], [], [], [], [], [], [], [], [], [], [none, none, none, none, none, none, some 40, some 41, some 42, some 43, some 44, some 45, some 46, some 47, some 48], [], [], [], [], [], [], [], [], [], [none, none, none, none, none, none, some 50, some 51, some 52, some 53, some 54, some 55, some 56, some 57, some 58], [], [], [], [], [], [], [], [], [], [none, none, none, none, none, none, some 60, some 61, some 62, some 63, some 64, some 65, some 66, some 67, some 68], [], [], [], [], [], [], [], [], [], [none, none, none, none, none, none, some 70, some 71, some 72, some 73, some 74, some 75, some 76, some 77, some 78], [], [], [], [], [], [], [], [], [], [none, none, none, none, none, none, some 80, some 81, some 82, some 83, some 84, some 85, some 86, some 87, some 88], [], [], [], [], [], [], [], [], [], [some 90, some 91, some 92, some 93], [], [], [], [], [some 95], [], [some 97, some 98], [], [], [some 100, some 110], [none, none, none, none, none, none, some 101, some 102, some 103, some 104, some 105, some 106, some 107, some 108, some 109], [], [], [], [], [], [], [], [], [], [none, none, none, none, none, none, some 111, some 112, some 113, some 114, some 115, some 116, some 117, some 118, some 119], [], [], [], [], [], [], [], [], [], [], [some 122, some 123, some 124, none, some 125, some 126, none, some 127, some 128, some 129, none, none, none, none, some 130, some 131, some 132, none, some 133, some 134, some 135], [], [], [], [], [], [], [], [], [], [], [], [], [], []]
def G0 : am_G := (136, fun i => g0K.getD i 0, fun i => g0L.getD i 0)
def RR (f : Nat → Option Nat) : am_O := fun i k => if i = 28 then f k else (g0R.getD i []).getD k none
theorem RR_28 (f : Nat → Option Nat) (k : Nat) : RR f 28 k = f k := rfl
theorem RR_up (f : Nat → Option Nat) (k : Nat) (v : Option Nat) : am_up (RR f) 28 k v = RR (va_up f k v) := by
  funext i j
  by_cases hi : i = 28
  · subst hi
    by_cases hj : j = k <;> simp [am_up, RR, va_up, hj]
  · simp [am_up, RR, hi]
theorem ob0 : am_ob G0 0 7 := ⟨by decide, rfl⟩
theorem ar1 : am_ar G0 1 0 120 := ⟨by decide, rfl, rfl⟩
theorem ob2 : am_ob G0 2 2 := ⟨by decide, rfl⟩
theorem ob3 : am_ob G0 3 5 := ⟨by decide, rfl⟩
theorem ar4 : am_ar G0 4 0 121 := ⟨by decide, rfl, rfl⟩
theorem ar5 : am_ar G0 5 0 121 := ⟨by decide, rfl, rfl⟩
theorem ar6 : am_ar G0 6 0 121 := ⟨by decide, rfl, rfl⟩
theorem ob7 : am_ob G0 7 6 := ⟨by decide, rfl⟩
theorem ar8 : am_ar G0 8 0 5 := ⟨by decide, rfl, rfl⟩
theorem ar9 : am_ar G0 9 0 5 := ⟨by decide, rfl, rfl⟩
theorem ar10 : am_ar G0 10 0 5 := ⟨by decide, rfl, rfl⟩
theorem ar11 : am_ar G0 11 0 5 := ⟨by decide, rfl, rfl⟩
theorem ar12 : am_ar G0 12 0 5 := ⟨by decide, rfl, rfl⟩
theorem ar13 : am_ar G0 13 0 3 := ⟨by decide, rfl, rfl⟩
theorem ar14 : am_ar G0 14 0 3 := ⟨by decide, rfl, rfl⟩
theorem ar15 : am_ar G0 15 0 16 := ⟨by decide, rfl, rfl⟩
theorem ar16 : am_ar G0 16 0 16 := ⟨by decide, rfl, rfl⟩
theorem ob17 : am_ob G0 17 6 := ⟨by decide, rfl⟩
theorem ar18 : am_ar G0 18 0 5 := ⟨by decide, rfl, rfl⟩
theorem ar19 : am_ar G0 19 0 5 := ⟨by decide, rfl, rfl⟩
theorem ar20 : am_ar G0 20 0 5 := ⟨by decide, rfl, rfl⟩
theorem ar21 : am_ar G0 21 0 5 := ⟨by decide, rfl, rfl⟩
theorem ar22 : am_ar G0 22 0 5 := ⟨by decide, rfl, rfl⟩
theorem ar23 : am_ar G0 23 0 3 := ⟨by decide, rfl, rfl⟩
theorem ar24 : am_ar G0 24 0 3 := ⟨by decide, rfl, rfl⟩
theorem ar25 : am_ar G0 25 0 16 := ⟨by decide, rfl, rfl⟩
theorem ar26 : am_ar G0 26 0 16 := ⟨by decide, rfl, rfl⟩
theorem ob27 : am_ob G0 27 1 := ⟨by decide, rfl⟩
theorem ar28 : am_ar G0 28 3 6 := ⟨by decide, rfl, rfl⟩
theorem ob29 : am_ob G0 29 6 := ⟨by decide, rfl⟩
theorem ar30 : am_ar G0 30 0 5 := ⟨by decide, rfl, rfl⟩
theorem ar31 : am_ar G0 31 0 5 := ⟨by decide, rfl, rfl⟩
theorem ar32 : am_ar G0 32 0 5 := ⟨by decide, rfl, rfl⟩
theorem ar33 : am_ar G0 33 0 5 := ⟨by decide, rfl, rfl⟩
theorem ar34 : am_ar G0 34 0 5 := ⟨by decide, rfl, rfl⟩
theorem ar35 : am_ar G0 35 0 3 := ⟨by decide, rfl, rfl⟩
theorem ar36 : am_ar G0 36 0 3 := ⟨by decide, rfl, rfl⟩
theorem ar37 : am_ar G0 37 0 16 := ⟨by decide, rfl, rfl⟩
theorem ar38 : am_ar G0 38 0 16 := ⟨by decide, rfl, rfl⟩
theorem ob39 : am_ob G0 39 6 := ⟨by decide, rfl⟩
theorem ar40 : am_ar G0 40 0 5 := ⟨by decide, rfl, rfl⟩
theorem ar41 : am_ar G0 41 0 5 := ⟨by decide, rfl, rfl⟩
theorem ar42 : am_ar G0 42 0 5 := ⟨by decide, rfl, rfl⟩
theorem ar43 : am_ar G0 43 0 5 := ⟨by decide, rfl, rfl⟩
theorem ar44 : am_ar G0 44 0 5 := ⟨by decide, rfl, rfl⟩
theorem ar45 : am_ar G0 45 0 3 := ⟨by decide, rfl, rfl⟩
theorem ar46 : am_ar G0 46 0 3 := ⟨by decide, rfl, rfl⟩
theorem ar47 : am_ar G0 47 0 16 := ⟨by decide, rfl, rfl⟩
theorem ar48 : am_ar G0 48 0 16 := ⟨by decide, rfl, rfl⟩
theorem ob49 : am_ob G0 49 6 := ⟨by decide, rfl⟩
theorem ar50 : am_ar G0 50 0 5 := ⟨by decide, rfl, rfl⟩
theorem ar51 : am_ar G0 51 0 5 := ⟨by decide, rfl, rfl⟩
theorem ar52 : am_ar G0 52 0 5 := ⟨by decide, rfl, rfl⟩
theorem ar53 : am_ar G0 53 0 5 := ⟨by decide, rfl, rfl⟩
theorem ar54 : am_ar G0 54 0 5 := ⟨by decide, rfl, rfl⟩
theorem ar55 : am_ar G0 55 0 3 := ⟨by decide, rfl, rfl⟩
theorem ar56 : am_ar G0 56 0 3 := ⟨by decide, rfl, rfl⟩
theorem ar57 : am_ar G0 57 0 16 := ⟨by decide, rfl, rfl⟩
theorem ar58 : am_ar G0 58 0 16 := ⟨by decide, rfl, rfl⟩
theorem ob59 : am_ob G0 59 6 := ⟨by decide, rfl⟩
theorem ar60 : am_ar G0 60 0 5 := ⟨by decide, rfl, rfl⟩
theorem ar61 : am_ar G0 61 0 5 := ⟨by decide, rfl, rfl⟩
theorem ar62 : am_ar G0 62 0 5 := ⟨by decide, rfl, rfl⟩
theorem ar63 : am_ar G0 63 0 5 := ⟨by decide, rfl, rfl⟩
theorem ar64 : am_ar G0 64 0 5 := ⟨by decide, rfl, rfl⟩
theorem ar65 : am_ar G0 65 0 3 := ⟨by decide, rfl, rfl⟩
theorem ar66 : am_ar G0 66 0 3 := ⟨by decide, rfl, rfl⟩
theorem ar67 : am_ar G0 67 0 16 := ⟨by decide, rfl, rfl⟩
theorem ar68 : am_ar G0 68 0 16 := ⟨by decide, rfl, rfl⟩
theorem ob69 : am_ob G0 69 6 := ⟨by decide, rfl⟩
theorem ar70 : am_ar G0 70 0 5 := ⟨by decide, rfl, rfl⟩
theorem ar71 : am_ar G0 71 0 5 := ⟨by decide, rfl, rfl⟩
theorem ar72 : am_ar G0 72 0 5 := ⟨by decide, rfl, rfl⟩
theorem ar73 : am_ar G0 73 0 5 := ⟨by decide, rfl, rfl⟩
theorem ar74 : am_ar G0 74 0 5 := ⟨by decide, rfl, rfl⟩
theorem ar75 : am_ar G0 75 0 3 := ⟨by decide, rfl, rfl⟩
theorem ar76 : am_ar G0 76 0 3 := ⟨by decide, rfl, rfl⟩
theorem ar77 : am_ar G0 77 0 16 := ⟨by decide, rfl, rfl⟩
theorem ar78 : am_ar G0 78 0 16 := ⟨by decide, rfl, rfl⟩
theorem ob79 : am_ob G0 79 6 := ⟨by decide, rfl⟩
theorem ar80 : am_ar G0 80 0 5 := ⟨by decide, rfl, rfl⟩
theorem ar81 : am_ar G0 81 0 5 := ⟨by decide, rfl, rfl⟩
theorem ar82 : am_ar G0 82 0 5 := ⟨by decide, rfl, rfl⟩
theorem ar83 : am_ar G0 83 0 5 := ⟨by decide, rfl, rfl⟩
theorem ar84 : am_ar G0 84 0 5 := ⟨by decide, rfl, rfl⟩
theorem ar85 : am_ar G0 85 0 3 := ⟨by decide, rfl, rfl⟩
theorem ar86 : am_ar G0 86 0 3 := ⟨by decide, rfl, rfl⟩
theorem ar87 : am_ar G0 87 0 16 := ⟨by decide, rfl, rfl⟩
theorem ar88 : am_ar G0 88 0 16 := ⟨by decide, rfl, rfl⟩
theorem ob89 : am_ob G0 89 3 := ⟨by decide, rfl⟩
theorem ar90 : am_ar G0 90 1 5 := ⟨by decide, rfl, rfl⟩
theorem ar91 : am_ar G0 91 1 5 := ⟨by decide, rfl, rfl⟩
theorem ar92 : am_ar G0 92 0 5 := ⟨by decide, rfl, rfl⟩
theorem ar93 : am_ar G0 93 0 5 := ⟨by decide, rfl, rfl⟩
theorem ob94 : am_ob G0 94 0 := ⟨by decide, rfl⟩
theorem ar95 : am_ar G0 95 0 32 := ⟨by decide, rfl, rfl⟩
theorem ob96 : am_ob G0 96 4 := ⟨by decide, rfl⟩
theorem ar97 : am_ar G0 97 0 6 := ⟨by decide, rfl, rfl⟩
theorem ar98 : am_ar G0 98 0 6 := ⟨by decide, rfl, rfl⟩
theorem ar99 : am_ar G0 99 3 2 := ⟨by decide, rfl, rfl⟩
theorem ob100 : am_ob G0 100 6 := ⟨by decide, rfl⟩
theorem ar101 : am_ar G0 101 0 5 := ⟨by decide, rfl, rfl⟩
theorem ar102 : am_ar G0 102 0 5 := ⟨by decide, rfl, rfl⟩
theorem ar103 : am_ar G0 103 0 5 := ⟨by decide, rfl, rfl⟩
theorem ar104 : am_ar G0 104 0 5 := ⟨by decide, rfl, rfl⟩
theorem ar105 : am_ar G0 105 0 5 := ⟨by decide, rfl, rfl⟩
theorem ar106 : am_ar G0 106 0 3 := ⟨by decide, rfl, rfl⟩
theorem ar107 : am_ar G0 107 0 3 := ⟨by decide, rfl, rfl⟩
theorem ar108 : am_ar G0 108 0 16 := ⟨by decide, rfl, rfl⟩
theorem ar109 : am_ar G0 109 0 16 := ⟨by decide, rfl, rfl⟩
theorem ob110 : am_ob G0 110 6 := ⟨by decide, rfl⟩
theorem ar111 : am_ar G0 111 0 5 := ⟨by decide, rfl, rfl⟩
theorem ar112 : am_ar G0 112 0 5 := ⟨by decide, rfl, rfl⟩
theorem ar113 : am_ar G0 113 0 5 := ⟨by decide, rfl, rfl⟩
theorem ar114 : am_ar G0 114 0 5 := ⟨by decide, rfl, rfl⟩
theorem ar115 : am_ar G0 115 0 5 := ⟨by decide, rfl, rfl⟩
theorem ar116 : am_ar G0 116 0 3 := ⟨by decide, rfl, rfl⟩
theorem ar117 : am_ar G0 117 0 3 := ⟨by decide, rfl, rfl⟩
theorem ar118 : am_ar G0 118 0 16 := ⟨by decide, rfl, rfl⟩
theorem ar119 : am_ar G0 119 0 16 := ⟨by decide, rfl, rfl⟩
theorem ar120 : am_ar G0 120 2 2 := ⟨by decide, rfl, rfl⟩
theorem ob121 : am_ob G0 121 8 := ⟨by decide, rfl⟩
theorem ar122 : am_ar G0 122 0 69 := ⟨by decide, rfl, rfl⟩
theorem ar123 : am_ar G0 123 0 69 := ⟨by decide, rfl, rfl⟩
theorem ar124 : am_ar G0 124 0 414 := ⟨by decide, rfl, rfl⟩
theorem ar125 : am_ar G0 125 0 138 := ⟨by decide, rfl, rfl⟩
theorem ar126 : am_ar G0 126 2 2 := ⟨by decide, rfl, rfl⟩
theorem ar127 : am_ar G0 127 0 6 := ⟨by decide, rfl, rfl⟩
theorem ar128 : am_ar G0 128 0 6 := ⟨by decide, rfl, rfl⟩
theorem ar129 : am_ar G0 129 0 120 := ⟨by decide, rfl, rfl⟩
theorem ar130 : am_ar G0 130 0 5 := ⟨by decide, rfl, rfl⟩
theorem ar131 : am_ar G0 131 0 5 := ⟨by decide, rfl, rfl⟩
theorem ar132 : am_ar G0 132 0 4 := ⟨by decide, rfl, rfl⟩
theorem ar133 : am_ar G0 133 2 200 := ⟨by decide, rfl, rfl⟩
theorem ar134 : am_ar G0 134 2 200 := ⟨by decide, rfl, rfl⟩
theorem ar135 : am_ar G0 135 0 32 := ⟨by decide, rfl, rfl⟩
/-- a wall stands at cell b -/
def WB (b : Nat) : Prop := b ∈ ([7, 17, 29, 39, 49, 59, 69, 79, 100, 110] : List Nat)
theorem WB.ob {b : Nat} (h : WB b) : am_ob G0 b 6 := by
  revert h
  exact (by decide : ∀ b ∈ ([7, 17, 29, 39, 49, 59, 69, 79, 100, 110] : List Nat), b < G0.1 ∧ G0.2.1 b = 6 + 4) b
theorem WB.ar1 {b : Nat} (h : WB b) : am_ar G0 (b + 1) 0 5 := by
  revert h
  exact (by decide : ∀ b ∈ ([7, 17, 29, 39, 49, 59, 69, 79, 100, 110] : List Nat), b + 1 < G0.1 ∧ G0.2.1 (b + 1) = 0 ∧ G0.2.2 (b + 1) = 5) b
theorem WB.rf1 {b : Nat} (h : WB b) {f : Nat → Option Nat} : RR f b 6 = some (b + 1) := by
  have h1 : b ≠ 28 ∧ (g0R.getD b []).getD 6 none = some (b + 1) := by
    revert h
    exact (by decide : ∀ b ∈ ([7, 17, 29, 39, 49, 59, 69, 79, 100, 110] : List Nat), b ≠ 28 ∧ (g0R.getD b []).getD 6 none = some (b + 1)) b
  simp only [RR, if_neg h1.1]
  exact h1.2
theorem WB.ar2 {b : Nat} (h : WB b) : am_ar G0 (b + 2) 0 5 := by
  revert h
  exact (by decide : ∀ b ∈ ([7, 17, 29, 39, 49, 59, 69, 79, 100, 110] : List Nat), b + 2 < G0.1 ∧ G0.2.1 (b + 2) = 0 ∧ G0.2.2 (b + 2) = 5) b
theorem WB.rf2 {b : Nat} (h : WB b) {f : Nat → Option Nat} : RR f b 7 = some (b + 2) := by
  have h1 : b ≠ 28 ∧ (g0R.getD b []).getD 7 none = some (b + 2) := by
    revert h
    exact (by decide : ∀ b ∈ ([7, 17, 29, 39, 49, 59, 69, 79, 100, 110] : List Nat), b ≠ 28 ∧ (g0R.getD b []).getD 7 none = some (b + 2)) b
  simp only [RR, if_neg h1.1]
  exact h1.2
theorem WB.ar3 {b : Nat} (h : WB b) : am_ar G0 (b + 3) 0 5 := by
  revert h
  exact (by decide : ∀ b ∈ ([7, 17, 29, 39, 49, 59, 69, 79, 100, 110] : List Nat), b + 3 < G0.1 ∧ G0.2.1 (b + 3) = 0 ∧ G0.2.2 (b + 3) = 5) b
theorem WB.rf3 {b : Nat} (h : WB b) {f : Nat → Option Nat} : RR f b 8 = some (b + 3) := by
  have h1 : b ≠ 28 ∧ (g0R.getD b []).getD 8 none = some (b + 3) := by
    revert h
    exact (by decide : ∀ b ∈ ([7, 17, 29, 39, 49, 59, 69, 79, 100, 110] : List Nat), b ≠ 28 ∧ (g0R.getD b []).getD 8 none = some (b + 3)) b
  simp only [RR, if_neg h1.1]
  exact h1.2
theorem WB.ar4 {b : Nat} (h : WB b) : am_ar G0 (b + 4) 0 5 := by
  revert h
  exact (by decide : ∀ b ∈ ([7, 17, 29, 39, 49, 59, 69, 79, 100, 110] : List Nat), b + 4 < G0.1 ∧ G0.2.1 (b + 4) = 0 ∧ G0.2.2 (b + 4) = 5) b
theorem WB.rf4 {b : Nat} (h : WB b) {f : Nat → Option Nat} : RR f b 9 = some (b + 4) := by
  have h1 : b ≠ 28 ∧ (g0R.getD b []).getD 9 none = some (b + 4) := by
    revert h
    exact (by decide : ∀ b ∈ ([7, 17, 29, 39, 49, 59, 69, 79, 100, 110] : List Nat), b ≠ 28 ∧ (g0R.getD b []).getD 9 none = some (b + 4)) b
  simp only [RR, if_neg h1.1]
  exact h1.2
theorem WB.ar5 {b : Nat} (h : WB b) : am_ar G0 (b + 5) 0 5 := by
  revert h
  exact (by decide : ∀ b ∈ ([7, 17, 29, 39, 49, 59, 69, 79, 100, 110] : List Nat), b + 5 < G0.1 ∧ G0.2.1 (b + 5) = 0 ∧ G0.2.2 (b + 5) = 5) b
theorem WB.rf5 {b : Nat} (h : WB b) {f : Nat → Option Nat} : RR f b 10 = some (b + 5) := by
  have h1 : b ≠ 28 ∧ (g0R.getD b []).getD 10 none = some (b + 5) := by
    revert h
    exact (by decide : ∀ b ∈ ([7, 17, 29, 39, 49, 59, 69, 79, 100, 110] : List Nat), b ≠ 28 ∧ (g0R.getD b []).getD 10 none = some (b + 5)) b
  simp only [RR, if_neg h1.1]
  exact h1.2
theorem WB.ar6 {b : Nat} (h : WB b) : am_ar G0 (b + 6) 0 3 := by
  revert h
  exact (by decide : ∀ b ∈ ([7, 17, 29, 39, 49, 59, 69, 79, 100, 110] : List Nat), b + 6 < G0.1 ∧ G0.2.1 (b + 6) = 0 ∧ G0.2.2 (b + 6) = 3) b
theorem WB.rf6 {b : Nat} (h : WB b) {f : Nat → Option Nat} : RR f b 11 = some (b + 6) := by
  have h1 : b ≠ 28 ∧ (g0R.getD b []).getD 11 none = some (b + 6) := by
    revert h
    exact (by decide : ∀ b ∈ ([7, 17, 29, 39, 49, 59, 69, 79, 100, 110] : List Nat), b ≠ 28 ∧ (g0R.getD b []).getD 11 none = some (b + 6)) b
  simp only [RR, if_neg h1.1]
  exact h1.2
theorem WB.ar7 {b : Nat} (h : WB b) : am_ar G0 (b + 7) 0 3 := by
  revert h
  exact (by decide : ∀ b ∈ ([7, 17, 29, 39, 49, 59, 69, 79, 100, 110] : List Nat), b + 7 < G0.1 ∧ G0.2.1 (b + 7) = 0 ∧ G0.2.2 (b + 7) = 3) b
theorem WB.rf7 {b : Nat} (h : WB b) {f : Nat → Option Nat} : RR f b 12 = some (b + 7) := by
  have h1 : b ≠ 28 ∧ (g0R.getD b []).getD 12 none = some (b + 7) := by
    revert h
    exact (by decide : ∀ b ∈ ([7, 17, 29, 39, 49, 59, 69, 79, 100, 110] : List Nat), b ≠ 28 ∧ (g0R.getD b []).getD 12 none = some (b + 7)) b
  simp only [RR, if_neg h1.1]
  exact h1.2
theorem WB.ar8 {b : Nat} (h : WB b) : am_ar G0 (b + 8) 0 16 := by
  revert h
  exact (by decide : ∀ b ∈ ([7, 17, 29, 39, 49, 59, 69, 79, 100, 110] : List Nat), b + 8 < G0.1 ∧ G0.2.1 (b + 8) = 0 ∧ G0.2.2 (b + 8) = 16) b
theorem WB.rf8 {b : Nat} (h : WB b) {f : Nat → Option Nat} : RR f b 13 = some (b + 8) := by
  have h1 : b ≠ 28 ∧ (g0R.getD b []).getD 13 none = some (b + 8) := by
    revert h
    exact (by decide : ∀ b ∈ ([7, 17, 29, 39, 49, 59, 69, 79, 100, 110] : List Nat), b ≠ 28 ∧ (g0R.getD b []).getD 13 none = some (b + 8)) b
  simp only [RR, if_neg h1.1]
  exact h1.2
theorem WB.ar9 {b : Nat} (h : WB b) : am_ar G0 (b + 9) 0 16 := by
  revert h
  exact (by decide : ∀ b ∈ ([7, 17, 29, 39, 49, 59, 69, 79, 100, 110] : List Nat), b + 9 < G0.1 ∧ G0.2.1 (b + 9) = 0 ∧ G0.2.2 (b + 9) = 16) b
theorem WB.rf9 {b : Nat} (h : WB b) {f : Nat → Option Nat} : RR f b 14 = some (b + 9) := by
  have h1 : b ≠ 28 ∧ (g0R.getD b []).getD 14 none = some (b + 9) := by
    revert h
    exact (by decide : ∀ b ∈ ([7, 17, 29, 39, 49, 59, 69, 79, 100, 110] : List Nat), b ≠ 28 ∧ (g0R.getD b []).getD 14 none = some (b + 9)) b
  simp only [RR, if_neg h1.1]
  exact h1.2
theorem wb7 : WB 7 := by unfold WB; decide
theorem wb17 : WB 17 := by unfold WB; decide
theorem wb29 : WB 29 := by unfold WB; decide
theorem wb39 : WB 39 := by unfold WB; decide
theorem wb49 : WB 49 := by unfold WB; decide
theorem wb59 : WB 59 := by unfold WB; decide
theorem wb69 : WB 69 := by unfold WB; decide
theorem wb79 : WB 79 := by unfold WB; decide
theorem wb100 : WB 100 := by unfold WB; decide
theorem wb110 : WB 110 := by unfold WB; decide
abbrev a0_Po : Type := Option Value → am_I → am_J → (Nat → Option Nat) → Prop
abbrev PQ (Q : a0_Po) : am_Po := fun v g' M' V' R' => g' = G0 ∧ ∃ f', R' = RR f' ∧ Q v M' V' f'
def A0 (μ : am_M) (d : Nat) (pc : Nat) (ls : List (Option Value)) (st : List Value) (M : am_I) (V : am_J) (f : Nat → Option Nat) (Q : a0_Po) : Prop := AW μ d 0 0 G0 pc ls st M V (RR f) (PQ Q)
def CT (μ : am_M) (d : Nat) (av : List Value) (M : am_I) (V : am_J) (f : Nat → Option Nat) (Q : a0_Po) : Prop := Ct μ d 0 0 av G0 M V (RR f) (PQ Q)
/-- an answer, and nothing is changed -/
def RV (x : Int32) (M : am_I) (V : am_J) (f : Nat → Option Nat) : a0_Po := fun v M' V' f' => v = some (.int x) ∧ M' = M ∧ V' = V ∧ f' = f
/-- 1 or 0 -/
noncomputable def bi (p : Prop) : Int32 := @ite Int32 p (Classical.propDecidable p) 1 0
theorem bi_t {p : Prop} (h : p) : bi p = 1 := if_pos h
theorem bi_f {p : Prop} (h : ¬ p) : bi p = 0 := if_neg h
theorem bi_cases (p : Prop) : (p ∧ bi p = 1) ∨ (¬ p ∧ bi p = 0) := (Classical.em p).imp (fun h => ⟨h, bi_t h⟩) (fun h => ⟨h, bi_f h⟩)
theorem bi_eq0 {p : Prop} : bi p = 0 ↔ ¬ p := by
  rcases bi_cases p with ⟨h, e⟩ | ⟨h, e⟩
  · exact ⟨fun h0 => absurd (e.symm.trans h0) (by decide), fun hn => absurd h hn⟩
  · exact ⟨fun _ => h, fun _ => e⟩
theorem bi_ne0 {p : Prop} : ¬ bi p = 0 ↔ p := by
  rw [bi_eq0]
  exact Classical.not_not
theorem bi_congr {p q : Prop} (h : p ↔ q) : bi p = bi q := by rw [propext h]
theorem rv_mk {x y : Int32} {M : am_I} {V : am_J} {f : Nat → Option Nat} (h : y = x) : RV x M V f (some (.int y)) M V f := ⟨by rw [h], rfl, rfl, rfl⟩
theorem CT.weaken {μ : am_M} {d : Nat} {av : List Value} {M : am_I} {V : am_J} {f : Nat → Option Nat} {Q Q2 : a0_Po} (h : CT μ d av M V f Q) (hq : ∀ v M' V' f', Q v M' V' f' → Q2 v M' V' f') : CT μ d av M V f Q2 :=
  Ct.weaken h (fun v g' M' V' R' ⟨h1, f', h2, h3⟩ => ⟨h1, f', h2, hq v M' V' f' h3⟩)
def ix (i : Int32) (n j : Nat) : Prop := vp_in i n ∧ i.toNatClampNeg = j
theorem ix_nI {k n : Nat} (h : k < n) (hn : n < 2 ^ 31) : ix (nI k) n k := ⟨vp_in_nI h hn, nI_clamp (Nat.lt_trans h hn)⟩
theorem ix_self {i : Int32} {n : Nat} (h : vp_in i n) : ix i n i.toNatClampNeg := ⟨h, rfl⟩
section A0R
variable {μ : am_M} {d : Nat} {pc : Nat} {ls : List (Option Value)} {st : List Value} {M : am_I} {V : am_J} {f : Nat → Option Nat} {Q : a0_Po}
theorem ac_iconst (q : Nat) {n : Int} (v : Int32) (hd : decode μ.2.1 pc = .ok (.iconst n, 1)) (hp : pc + 1 = q) (hv : Int32.ofInt n = v) (k : A0 μ d q ls (.int v :: st) M V f Q) : A0 μ d pc ls st M V f Q := aw_iconst q hd hp hv k
theorem ac_bipush (q : Nat) {n : Int} (v : Int32) (hd : decode μ.2.1 pc = .ok (.bipush n, 2)) (hp : pc + 2 = q) (hv : (Int8.ofInt n).toInt32 = v) (k : A0 μ d q ls (.int v :: st) M V f Q) : A0 μ d pc ls st M V f Q := aw_bipush q hd hp hv k
theorem ac_sipush (q : Nat) {n : Int} (v : Int32) (hd : decode μ.2.1 pc = .ok (.sipush n, 3)) (hp : pc + 3 = q) (hv : (Int16.ofInt n).toInt32 = v) (k : A0 μ d q ls (.int v :: st) M V f Q) : A0 μ d pc ls st M V f Q := aw_sipush q hd hp hv k
theorem ac_lconst (q : Nat) {n : Fin 2} (v : Int64) (hd : decode μ.2.1 pc = .ok (.lconst n, 1)) (hp : pc + 1 = q) (hv : Int64.ofNat (n : Nat) = v) (k : A0 μ d q ls (.long v :: st) M V f Q) : A0 μ d pc ls st M V f Q := aw_lconst q hd hp hv k
theorem ac_ldc (q : Nat) {idx : Nat} {v : Int32} (hd : decode μ.2.1 pc = .ok (.ldc idx, 2)) (hp : pc + 2 = q) (hw : Cond.constant μ.1.cls idx v ∈ am_g) (k : A0 μ d q ls (.int v :: st) M V f Q) : A0 μ d pc ls st M V f Q := aw_ldc q hd hp hw k
theorem ac_ldcw (q : Nat) {idx : Nat} {v : Int32} (hd : decode μ.2.1 pc = .ok (.ldc_w idx, 3)) (hp : pc + 3 = q) (hw : Cond.constant μ.1.cls idx v ∈ am_g) (k : A0 μ d q ls (.int v :: st) M V f Q) : A0 μ d pc ls st M V f Q := aw_ldcw q hd hp hw k
theorem ac_iload_n (q : Nat) {i : Fin 4} {x : Int32} (hd : decode μ.2.1 pc = .ok (.iload_n i, 1)) (hp : pc + 1 = q) (hl : ls[(i : Nat)]? = some (some (.int x))) (k : A0 μ d q ls (.int x :: st) M V f Q) : A0 μ d pc ls st M V f Q := aw_iload_n q hd hp hl k
theorem ac_iload (q : Nat) {i : Nat} {x : Int32} (hd : decode μ.2.1 pc = .ok (.iload i, 2)) (hp : pc + 2 = q) (hl : ls[i]? = some (some (.int x))) (k : A0 μ d q ls (.int x :: st) M V f Q) : A0 μ d pc ls st M V f Q := aw_iload q hd hp hl k
theorem ac_aload_n (q : Nat) {i : Fin 4} {x : Nat} (hd : decode μ.2.1 pc = .ok (.aload_n i, 1)) (hp : pc + 1 = q) (hl : ls[(i : Nat)]? = some (some (.ref x))) (k : A0 μ d q ls (.ref x :: st) M V f Q) : A0 μ d pc ls st M V f Q := aw_aload_n q hd hp hl k
theorem ac_lload_n (q : Nat) {i : Fin 4} {x : Int64} (hd : decode μ.2.1 pc = .ok (.lload_n i, 1)) (hp : pc + 1 = q) (hl : ls[(i : Nat)]? = some (some (.long x))) (k : A0 μ d q ls (.long x :: st) M V f Q) : A0 μ d pc ls st M V f Q := aw_lload_n q hd hp hl k
theorem ac_istore_n (q : Nat) {i : Fin 4} {x : Int32} (ls' : List (Option Value)) (hd : decode μ.2.1 pc = .ok (.istore_n i, 1)) (hp : pc + 1 = q) (hc : am_c1 ls = true) (hi : (i : Nat) < ls.length) (hm : (i : Nat) < μ.2.2.1) (hs : ls.set (i : Nat) (some (.int x)) = ls') (k : A0 μ d q ls' st M V f Q) : A0 μ d pc ls (.int x :: st) M V f Q := by
  subst hs
  exact aw_istore_n q hd hp hc hi hm k
theorem ac_astore_n (q : Nat) {i : Fin 4} {x : Nat} (ls' : List (Option Value)) (hd : decode μ.2.1 pc = .ok (.astore_n i, 1)) (hp : pc + 1 = q) (hc : am_c1 ls = true) (hi : (i : Nat) < ls.length) (hm : (i : Nat) < μ.2.2.1) (hs : ls.set (i : Nat) (some (.ref x)) = ls') (k : A0 μ d q ls' st M V f Q) : A0 μ d pc ls (.ref x :: st) M V f Q := by
  subst hs
  exact aw_astore_n q hd hp hc hi hm k
theorem ac_istore (q : Nat) {i : Nat} {x : Int32} (ls' : List (Option Value)) (hd : decode μ.2.1 pc = .ok (.istore i, 2)) (hp : pc + 2 = q) (hc : am_c1 ls = true) (hi : i < ls.length) (hm : i < μ.2.2.1) (hs : ls.set i (some (.int x)) = ls') (k : A0 μ d q ls' st M V f Q) : A0 μ d pc ls (.int x :: st) M V f Q := by
  subst hs
  exact aw_istore q hd hp hc hi hm k
theorem ac_iinc (q : Nat) {i : Nat} {n : Int} {x : Int32} (v : Int32) (ls' : List (Option Value)) (hd : decode μ.2.1 pc = .ok (.iinc i n, 3)) (hp : pc + 3 = q) (hl : ls[i]? = some (some (.int x))) (hv : x + Int32.ofInt n = v) (hc : am_c1 ls = true) (hm : i < μ.2.2.1) (hs : ls.set i (some (.int v)) = ls') (k : A0 μ d q ls' st M V f Q) : A0 μ d pc ls st M V f Q := by
  subst hs
  exact aw_iinc q hd hp hl hv hc hm k
theorem ac_iadd (q : Nat) {x y : Int32} (hd : decode μ.2.1 pc = .ok (.iadd, 1)) (hp : pc + 1 = q) (k : A0 μ d q ls (.int (x + y) :: st) M V f Q) : A0 μ d pc ls (.int y :: .int x :: st) M V f Q := aw_iadd q hd hp k
theorem ac_isub (q : Nat) {x y : Int32} (hd : decode μ.2.1 pc = .ok (.isub, 1)) (hp : pc + 1 = q) (k : A0 μ d q ls (.int (x - y) :: st) M V f Q) : A0 μ d pc ls (.int y :: .int x :: st) M V f Q := aw_isub q hd hp k
theorem ac_imul (q : Nat) {x y : Int32} (hd : decode μ.2.1 pc = .ok (.imul, 1)) (hp : pc + 1 = q) (k : A0 μ d q ls (.int (x * y) :: st) M V f Q) : A0 μ d pc ls (.int y :: .int x :: st) M V f Q := aw_imul q hd hp k
theorem ac_iand (q : Nat) {x y : Int32} (hd : decode μ.2.1 pc = .ok (.iand, 1)) (hp : pc + 1 = q) (k : A0 μ d q ls (.int (x &&& y) :: st) M V f Q) : A0 μ d pc ls (.int y :: .int x :: st) M V f Q := aw_iand q hd hp k
theorem ac_ior (q : Nat) {x y : Int32} (hd : decode μ.2.1 pc = .ok (.ior, 1)) (hp : pc + 1 = q) (k : A0 μ d q ls (.int (x ||| y) :: st) M V f Q) : A0 μ d pc ls (.int y :: .int x :: st) M V f Q := aw_ior q hd hp k
theorem ac_ixor (q : Nat) {x y : Int32} (hd : decode μ.2.1 pc = .ok (.ixor, 1)) (hp : pc + 1 = q) (k : A0 μ d q ls (.int (x ^^^ y) :: st) M V f Q) : A0 μ d pc ls (.int y :: .int x :: st) M V f Q := aw_ixor q hd hp k
theorem ac_ishl (q : Nat) {x y : Int32} (hd : decode μ.2.1 pc = .ok (.ishl, 1)) (hp : pc + 1 = q) (k : A0 μ d q ls (.int (x <<< (y &&& 31)) :: st) M V f Q) : A0 μ d pc ls (.int y :: .int x :: st) M V f Q := aw_ishl q hd hp k
theorem ac_ishr (q : Nat) {x y : Int32} (hd : decode μ.2.1 pc = .ok (.ishr, 1)) (hp : pc + 1 = q) (k : A0 μ d q ls (.int (x >>> (y &&& 31)) :: st) M V f Q) : A0 μ d pc ls (.int y :: .int x :: st) M V f Q := aw_ishr q hd hp k
theorem ac_iushr (q : Nat) {x y : Int32} (hd : decode μ.2.1 pc = .ok (.iushr, 1)) (hp : pc + 1 = q) (k : A0 μ d q ls (.int (x.toUInt32 >>> (y.toUInt32 &&& Int32.toUInt32 31)).toInt32 :: st) M V f Q) : A0 μ d pc ls (.int y :: .int x :: st) M V f Q := aw_iushr q hd hp rfl k
theorem ac_idiv (q : Nat) {x y : Int32} (hd : decode μ.2.1 pc = .ok (.idiv, 1)) (hp : pc + 1 = q) (hne : ¬ y = 0) (k : A0 μ d q ls (.int (x / y) :: st) M V f Q) : A0 μ d pc ls (.int y :: .int x :: st) M V f Q := aw_idiv q hd hp hne k
theorem ac_irem (q : Nat) {x y : Int32} (hd : decode μ.2.1 pc = .ok (.irem, 1)) (hp : pc + 1 = q) (hne : ¬ y = 0) (k : A0 μ d q ls (.int (x - x / y * y) :: st) M V f Q) : A0 μ d pc ls (.int y :: .int x :: st) M V f Q := aw_irem q hd hp hne k
theorem ac_ineg (q : Nat) {x : Int32} (hd : decode μ.2.1 pc = .ok (.ineg, 1)) (hp : pc + 1 = q) (k : A0 μ d q ls (.int (-x) :: st) M V f Q) : A0 μ d pc ls (.int x :: st) M V f Q := aw_ineg q hd hp k
theorem ac_lor (q : Nat) {x y : Int64} (hd : decode μ.2.1 pc = .ok (.lor, 1)) (hp : pc + 1 = q) (k : A0 μ d q ls (.long (x ||| y) :: st) M V f Q) : A0 μ d pc ls (.long y :: .long x :: st) M V f Q := aw_lor q hd hp k
theorem ac_land (q : Nat) {x y : Int64} (hd : decode μ.2.1 pc = .ok (.land, 1)) (hp : pc + 1 = q) (k : A0 μ d q ls (.long (x &&& y) :: st) M V f Q) : A0 μ d pc ls (.long y :: .long x :: st) M V f Q := aw_land q hd hp k
theorem ac_lshl (q : Nat) {x : Int64} {y : Int32} (hd : decode μ.2.1 pc = .ok (.lshl, 1)) (hp : pc + 1 = q) (k : A0 μ d q ls (.long (x <<< (y.toInt64 &&& 63)) :: st) M V f Q) : A0 μ d pc ls (.int y :: .long x :: st) M V f Q := aw_lshl q hd hp rfl k
theorem ac_lushr (q : Nat) {x : Int64} {y : Int32} (hd : decode μ.2.1 pc = .ok (.lushr, 1)) (hp : pc + 1 = q) (k : A0 μ d q ls (.long (x.toUInt64 >>> (y.toInt64.toUInt64 &&& Int64.toUInt64 63)).toInt64 :: st) M V f Q) : A0 μ d pc ls (.int y :: .long x :: st) M V f Q := aw_lushr q hd hp rfl k
theorem ac_lcmp (q : Nat) {x y : Int64} (hd : decode μ.2.1 pc = .ok (.lcmp, 1)) (hp : pc + 1 = q) (k : A0 μ d q ls (.int (lg_cmp x y) :: st) M V f Q) : A0 μ d pc ls (.long y :: .long x :: st) M V f Q := aw_lcmp q hd hp k
theorem ac_dup (q : Nat) {v : Value} (hd : decode μ.2.1 pc = .ok (.dup, 1)) (hp : pc + 1 = q) (hv : v.category = 1) (k : A0 μ d q ls (v :: v :: st) M V f Q) : A0 μ d pc ls (v :: st) M V f Q := aw_dup q hd hp hv k
theorem ac_dup2 (q : Nat) {u v : Value} (hd : decode μ.2.1 pc = .ok (.dup2, 1)) (hp : pc + 1 = q) (hu : u.category = 1) (hv : v.category = 1) (k : A0 μ d q ls (u :: v :: u :: v :: st) M V f Q) : A0 μ d pc ls (u :: v :: st) M V f Q := aw_dup2 q hd hp hu hv k
theorem ac_icmp_eq (t q : Nat) {x y : Int32} {off : Int} (hd : decode μ.2.1 pc = .ok (.if_icmp .eq off, 3)) (ht : (pc : Int) + off = (t : Int)) (hp : pc + 3 = q) (kt : x = y → A0 μ d t ls st M V f Q) (kf : ¬ x = y → A0 μ d q ls st M V f Q) : A0 μ d pc ls (.int y :: .int x :: st) M V f Q := aw_icmp_eq t q hd ht hp kt kf
theorem ac_icmp_ne (t q : Nat) {x y : Int32} {off : Int} (hd : decode μ.2.1 pc = .ok (.if_icmp .ne off, 3)) (ht : (pc : Int) + off = (t : Int)) (hp : pc + 3 = q) (kt : ¬ x = y → A0 μ d t ls st M V f Q) (kf : x = y → A0 μ d q ls st M V f Q) : A0 μ d pc ls (.int y :: .int x :: st) M V f Q := aw_icmp_ne t q hd ht hp kt kf
theorem ac_icmp_lt (t q : Nat) {x y : Int32} {off : Int} (hd : decode μ.2.1 pc = .ok (.if_icmp .lt off, 3)) (ht : (pc : Int) + off = (t : Int)) (hp : pc + 3 = q) (kt : x < y → A0 μ d t ls st M V f Q) (kf : ¬ x < y → A0 μ d q ls st M V f Q) : A0 μ d pc ls (.int y :: .int x :: st) M V f Q := aw_icmp_lt t q hd ht hp kt kf
theorem ac_icmp_ge (t q : Nat) {x y : Int32} {off : Int} (hd : decode μ.2.1 pc = .ok (.if_icmp .ge off, 3)) (ht : (pc : Int) + off = (t : Int)) (hp : pc + 3 = q) (kt : y ≤ x → A0 μ d t ls st M V f Q) (kf : ¬ y ≤ x → A0 μ d q ls st M V f Q) : A0 μ d pc ls (.int y :: .int x :: st) M V f Q := aw_icmp_ge t q hd ht hp kt kf
theorem ac_icmp_gt (t q : Nat) {x y : Int32} {off : Int} (hd : decode μ.2.1 pc = .ok (.if_icmp .gt off, 3)) (ht : (pc : Int) + off = (t : Int)) (hp : pc + 3 = q) (kt : y < x → A0 μ d t ls st M V f Q) (kf : ¬ y < x → A0 μ d q ls st M V f Q) : A0 μ d pc ls (.int y :: .int x :: st) M V f Q := aw_icmp_gt t q hd ht hp kt kf
theorem ac_icmp_le (t q : Nat) {x y : Int32} {off : Int} (hd : decode μ.2.1 pc = .ok (.if_icmp .le off, 3)) (ht : (pc : Int) + off = (t : Int)) (hp : pc + 3 = q) (kt : x ≤ y → A0 μ d t ls st M V f Q) (kf : ¬ x ≤ y → A0 μ d q ls st M V f Q) : A0 μ d pc ls (.int y :: .int x :: st) M V f Q := aw_icmp_le t q hd ht hp kt kf
theorem ac_if_eq (t q : Nat) {x : Int32} {off : Int} (hd : decode μ.2.1 pc = .ok (.ifCond .eq off, 3)) (ht : (pc : Int) + off = (t : Int)) (hp : pc + 3 = q) (kt : x = 0 → A0 μ d t ls st M V f Q) (kf : ¬ x = 0 → A0 μ d q ls st M V f Q) : A0 μ d pc ls (.int x :: st) M V f Q := aw_if_eq t q hd ht hp kt kf
theorem ac_if_ne (t q : Nat) {x : Int32} {off : Int} (hd : decode μ.2.1 pc = .ok (.ifCond .ne off, 3)) (ht : (pc : Int) + off = (t : Int)) (hp : pc + 3 = q) (kt : ¬ x = 0 → A0 μ d t ls st M V f Q) (kf : x = 0 → A0 μ d q ls st M V f Q) : A0 μ d pc ls (.int x :: st) M V f Q := aw_if_ne t q hd ht hp kt kf
theorem ac_if_lt (t q : Nat) {x : Int32} {off : Int} (hd : decode μ.2.1 pc = .ok (.ifCond .lt off, 3)) (ht : (pc : Int) + off = (t : Int)) (hp : pc + 3 = q) (kt : x < 0 → A0 μ d t ls st M V f Q) (kf : ¬ x < 0 → A0 μ d q ls st M V f Q) : A0 μ d pc ls (.int x :: st) M V f Q := aw_if_lt t q hd ht hp kt kf
theorem ac_if_ge (t q : Nat) {x : Int32} {off : Int} (hd : decode μ.2.1 pc = .ok (.ifCond .ge off, 3)) (ht : (pc : Int) + off = (t : Int)) (hp : pc + 3 = q) (kt : 0 ≤ x → A0 μ d t ls st M V f Q) (kf : ¬ 0 ≤ x → A0 μ d q ls st M V f Q) : A0 μ d pc ls (.int x :: st) M V f Q := aw_if_ge t q hd ht hp kt kf
theorem ac_if_gt (t q : Nat) {x : Int32} {off : Int} (hd : decode μ.2.1 pc = .ok (.ifCond .gt off, 3)) (ht : (pc : Int) + off = (t : Int)) (hp : pc + 3 = q) (kt : 0 < x → A0 μ d t ls st M V f Q) (kf : ¬ 0 < x → A0 μ d q ls st M V f Q) : A0 μ d pc ls (.int x :: st) M V f Q := aw_if_gt t q hd ht hp kt kf
theorem ac_if_le (t q : Nat) {x : Int32} {off : Int} (hd : decode μ.2.1 pc = .ok (.ifCond .le off, 3)) (ht : (pc : Int) + off = (t : Int)) (hp : pc + 3 = q) (kt : x ≤ 0 → A0 μ d t ls st M V f Q) (kf : ¬ x ≤ 0 → A0 μ d q ls st M V f Q) : A0 μ d pc ls (.int x :: st) M V f Q := aw_if_le t q hd ht hp kt kf
theorem ac_goto (t : Nat) {off : Int} (hd : decode μ.2.1 pc = .ok (.goto off, 3)) (ht : (pc : Int) + off = (t : Int)) (k : A0 μ d t ls st M V f Q) : A0 μ d pc ls st M V f Q := aw_goto t hd ht k
theorem ac_tableOut (t : Nat) {dflt lw hg : Int} {offs : Array Int} {len : Nat} {x : Int32} (hd : decode μ.2.1 pc = .ok (.tableswitch dflt lw hg offs, len)) (h : x.toInt < lw ∨ hg < x.toInt) (ht : (pc : Int) + dflt = (t : Int)) (k : A0 μ d t ls st M V f Q) : A0 μ d pc ls (.int x :: st) M V f Q := aw_tableOut t hd h ht k
theorem ac_tableIn (t : Nat) {dflt lw hg : Int} {offs : Array Int} {len : Nat} {x : Int32} (j : Nat) (off : Int) (hd : decode μ.2.1 pc = .ok (.tableswitch dflt lw hg offs, len)) (hx : x.toInt = lw + j) (hj : ¬ hg < lw + j) (ho : offs[j]? = some off) (ht : (pc : Int) + off = (t : Int)) (k : A0 μ d t ls st M V f Q) : A0 μ d pc ls (.int x :: st) M V f Q := aw_tableIn (off := off) t hd (by omega) (by omega) (by rw [hx, show (lw + (j : Int) - lw).toNat = j by omega]; exact ho) ht k
theorem ac_lookup (t : Nat) {dflt : Int} (off : Int) {ps : Array (Int × Int)} {len : Nat} {x : Int32} (hd : decode μ.2.1 pc = .ok (.lookupswitch dflt ps, len)) (hq : (ps.toList.zip (ps.toList.drop 1)).all (fun (a, next) => a.1 < next.1) = true) (ho : Op.lookupswitch.offset ps.toList dflt x.toInt = off) (ht : (pc : Int) + off = (t : Int)) (k : A0 μ d t ls st M V f Q) : A0 μ d pc ls (.int x :: st) M V f Q := aw_lookup t hd hq ho ht k
theorem ac_getI (q : Nat) {idx c0 j r : Nat} (hd : decode μ.2.1 pc = .ok (.getfield idx, 3)) (hp : pc + 3 = q) (hf : am_F μ.1.cls idx c0 j false) (ho : am_ob G0 r c0) (k : A0 μ d q ls (.int (M r j) :: st) M V f Q) : A0 μ d pc ls (.ref r :: st) M V f Q := aw_getI q hd hp hf ho k
theorem ac_getO (q : Nat) {idx c0 j r : Nat} (i : Nat) (hd : decode μ.2.1 pc = .ok (.getfield idx, 3)) (hp : pc + 3 = q) (hf : am_F μ.1.cls idx c0 j true) (ho : am_ob G0 r c0) (hi : RR f r j = some i) (k : A0 μ d q ls (.ref i :: st) M V f Q) : A0 μ d pc ls (.ref r :: st) M V f Q := aw_getO q hd hp hf ho hi k
theorem ac_putI (q : Nat) {idx c0 j r : Nat} {x : Int32} (hd : decode μ.2.1 pc = .ok (.putfield idx, 3)) (hp : pc + 3 = q) (hf : am_F μ.1.cls idx c0 j false) (hfin : (am_T c0 j).2.2.2 = false) (hft : fits (am_ty c0 j) (.int x) = true) (ho : am_ob G0 r c0) (k : A0 μ d q ls st (am_up M r j x) V f Q) : A0 μ d pc ls (.int x :: .ref r :: st) M V f Q := aw_putI q hd hp hf hfin hft ho k
theorem ac_iald (q : Nat) {r n j : Nat} {i : Int32} (hd : decode μ.2.1 pc = .ok (.iaload, 1)) (hp : pc + 1 = q) (ha : am_ar G0 r 0 n) (hi : ix i n j) (k : A0 μ d q ls (.int (M r j) :: st) M V f Q) : A0 μ d pc ls (.int i :: .ref r :: st) M V f Q := aw_iald q hd hp ha hi.1 (by rw [hi.2]; exact k)
theorem ac_zald (q : Nat) {r n j : Nat} {i : Int32} (hd : decode μ.2.1 pc = .ok (.baload, 1)) (hp : pc + 1 = q) (ha : am_ar G0 r 2 n) (hi : ix i n j) (k : A0 μ d q ls (.int (M r j) :: st) M V f Q) : A0 μ d pc ls (.int i :: .ref r :: st) M V f Q := aw_zald q hd hp ha hi.1 (by rw [hi.2]; exact k)
theorem ac_lald (q : Nat) {r n j : Nat} {i : Int32} (hd : decode μ.2.1 pc = .ok (.laload, 1)) (hp : pc + 1 = q) (ha : am_ar G0 r 1 n) (hi : ix i n j) (k : A0 μ d q ls (.long (V r j) :: st) M V f Q) : A0 μ d pc ls (.int i :: .ref r :: st) M V f Q := aw_lald q hd hp ha hi.1 (by rw [hi.2]; exact k)
theorem ac_aald (q : Nat) {r n j : Nat} (a : Nat) {i : Int32} (hd : decode μ.2.1 pc = .ok (.aaload, 1)) (hp : pc + 1 = q) (ha : am_ar G0 r 3 n) (hi : ix i n j) (hv : RR f r j = some a) (k : A0 μ d q ls (.ref a :: st) M V f Q) : A0 μ d pc ls (.int i :: .ref r :: st) M V f Q := aw_aald q hd hp ha hi.1 (by rw [hi.2]; exact hv) k
theorem ac_alen (q : Nat) {r n : Nat} (v : Int32) (hd : decode μ.2.1 pc = .ok (.arraylength, 1)) (hp : pc + 1 = q) (ha : am_ar G0 r 0 n) (hv : Int32.ofNat n = v) (k : A0 μ d q ls (.int v :: st) M V f Q) : A0 μ d pc ls (.ref r :: st) M V f Q := aw_alen q hd hp ha (Or.inl rfl) hv k
theorem ac_iast (q : Nat) {r n j : Nat} {i x : Int32} (hd : decode μ.2.1 pc = .ok (.iastore, 1)) (hp : pc + 1 = q) (ha : am_ar G0 r 0 n) (hi : ix i n j) (k : A0 μ d q ls st (am_up M r j x) V f Q) : A0 μ d pc ls (.int x :: .int i :: .ref r :: st) M V f Q := aw_iast q hd hp ha hi.1 (by rw [hi.2]; exact k)
theorem ac_zast (q : Nat) {r n j : Nat} {i x : Int32} (hd : decode μ.2.1 pc = .ok (.bastore, 1)) (hp : pc + 1 = q) (ha : am_ar G0 r 2 n) (hi : ix i n j) (hx : vp_nar .boolean x = x) (k : A0 μ d q ls st (am_up M r j x) V f Q) : A0 μ d pc ls (.int x :: .int i :: .ref r :: st) M V f Q := aw_zast q hx hd hp ha hi.1 (by rw [hi.2]; exact k)
theorem ac_last (q : Nat) {r n j : Nat} {i : Int32} {x : Int64} (hd : decode μ.2.1 pc = .ok (.lastore, 1)) (hp : pc + 1 = q) (ha : am_ar G0 r 1 n) (hi : ix i n j) (k : A0 μ d q ls st M (am_up V r j x) f Q) : A0 μ d pc ls (.long x :: .int i :: .ref r :: st) M V f Q := aw_last q hd hp ha hi.1 (by rw [hi.2]; exact k)
theorem ac_aast (q : Nat) {n a j : Nat} {i : Int32} (hd : decode μ.2.1 pc = .ok (.aastore, 1)) (hp : pc + 1 = q) (ha : am_ar G0 28 3 n) (hi : ix i n j) (ho : am_ob G0 a 6) (k : A0 μ d q ls st M V (va_up f j (some a)) Q) : A0 μ d pc ls (.ref a :: .int i :: .ref 28 :: st) M V f Q := by
  refine aw_aast q hd hp ha hi.1 ho ?_
  rw [hi.2, RR_up]
  exact k
theorem ac_copy (q : Nat) {idx r0 r1 n0 n1 : Nat} {sp dp n : Int32} (hd : decode μ.2.1 pc = .ok (.invokestatic idx, 3)) (hp : pc + 3 = q) (hlk : Cond.methodLink μ.1.cls idx arraycopyName ∈ am_g) (ha0 : am_ar G0 r0 0 n0) (ha1 : am_ar G0 r1 0 n1) (g1 : ¬ sp < 0) (g2 : ¬ dp < 0) (g3 : ¬ n < 0) (g4 : sp.toNatClampNeg + n.toNatClampNeg ≤ n0) (g5 : dp.toNatClampNeg + n.toNatClampNeg ≤ n1) (hd1 : 1 ≤ d) (hst : (st.map fun v => v.category).sum ≤ 8) (k : A0 μ d q ls st (am_row M r1 (va_cpy (M r0) (M r1) sp.toNatClampNeg dp.toNatClampNeg n.toNatClampNeg)) V f Q) : A0 μ d pc ls (.int n :: .int dp :: .ref r1 :: .int sp :: .ref r0 :: st) M V f Q := aw_copy q hd hp hlk ha0 ha1 g1 g2 g3 g4 g5 hd1 hst k
theorem ac_abs (q : Nat) {idx : Nat} {x : Int32} (hd : decode μ.2.1 pc = .ok (.invokestatic idx, 3)) (hp : pc + 3 = q) (hlk : Cond.methodLink μ.1.cls idx Lib.Math.abs.name ∈ am_g) (hd1 : 1 ≤ d) (hst : (st.map fun v => v.category).sum ≤ 8) (k : A0 μ d q ls (.int (if 0 ≤ x then x else 0 - x) :: st) M V f Q) : A0 μ d pc ls (.int x :: st) M V f Q := aw_abs q hd hp hlk hd1 hst k
theorem ac_min (q : Nat) {idx : Nat} {x y : Int32} (hd : decode μ.2.1 pc = .ok (.invokestatic idx, 3)) (hp : pc + 3 = q) (hlk : Cond.methodLink μ.1.cls idx Lib.Math.min.name ∈ am_g) (hd1 : 1 ≤ d) (hst : (st.map fun v => v.category).sum ≤ 8) (k : A0 μ d q ls (.int (if y < x then y else x) :: st) M V f Q) : A0 μ d pc ls (.int y :: .int x :: st) M V f Q := aw_min q hd hp hlk hd1 hst k
theorem ac_max (q : Nat) {idx : Nat} {x y : Int32} (hd : decode μ.2.1 pc = .ok (.invokestatic idx, 3)) (hp : pc + 3 = q) (hlk : Cond.methodLink μ.1.cls idx Lib.Math.max.name ∈ am_g) (hd1 : 1 ≤ d) (hst : (st.map fun v => v.category).sum ≤ 8) (k : A0 μ d q ls (.int (if x < y then y else x) :: st) M V f Q) : A0 μ d pc ls (.int y :: .int x :: st) M V f Q := aw_max q hd hp hlk hd1 hst k
theorem ac_iret {x : Int32} (hd : decode μ.2.1 pc = .ok (.ireturn, 1)) (hn : am_nr μ x) (hQ : Q (some (.int x)) M V f) : A0 μ d pc ls [.int x] M V f Q := aw_iret hd hn ⟨rfl, f, rfl, hQ⟩
theorem ac_vret (hd : decode μ.2.1 pc = .ok (.return_, 1)) (hn : μ.2.2.2 = none) (hQ : Q none M V f) : A0 μ d pc ls [] M V f Q := aw_vret hd hn ⟨rfl, f, rfl, hQ⟩
theorem bi_nr {μ : am_M} (h : μ.2.2.2 = some .boolean) (p : Prop) : am_nr μ (bi p) := ⟨_, h, by rcases bi_cases p with ⟨-, e⟩ | ⟨-, e⟩ <;> rw [e] <;> rfl⟩
/-- a loop that counts up -/
theorem ac_down {P : Nat → Prop} {n : Nat} (hn : P n) (hs : ∀ k, k < n → P (k + 1) → P k) : ∀ k, k ≤ n → P k := by
  have key : ∀ j, ∀ k, k + j = n → P k := by
    intro j
    induction j with
    | zero => intro k h; have : k = n := h; subst this; exact hn
    | succ j ih => intro k h; exact hs k (by omega) (ih (k + 1) (by omega))
  exact fun k h => key (n - k) k (by omega)
/-- a local that is not wanted any more -/
theorem aw_kill {μ : am_M} {d b1 b2 : Nat} {g : am_G} {pc : Nat} {ls : List (Option Value)} {st : List Value} {M : am_I} {V : am_J} {R : am_O} {Q : am_Po} (i : Nat) (k : AW μ d b1 b2 g pc (ls.set i none) st M V R Q) : AW μ d b1 b2 g pc ls st M V R Q := by
  intro p l e Rm s m args below meth c H locs cells slots mc ms n0 z sk D cy lo S h1 h2 h3 hR hS hL
  refine k p l e Rm s m args below meth c H locs cells slots mc ms n0 z sk D cy lo S h1 h2 h3 hR hS ⟨hL.1, hL.2.1, fun n v hn => hL.2.2 n v ?_⟩
  by_cases hni : n = i
  · subst hni
    rw [List.getElem?_set] at hn
    split at hn
    · split at hn <;> cases hn
    · exact hn
  · rw [List.getElem?_set_ne (Ne.symm hni)] at hn
    exact hn
theorem ac_kill (i : Nat) (ls' : List (Option Value)) (hs : ls.set i none = ls') (k : A0 μ d pc ls' st M V f Q) : A0 μ d pc ls st M V f Q := by
  subst hs
  exact aw_kill i k
/-- calls: by what the callee answers and does -/
theorem ac_callVg (q : Nat) {μ' : am_M} {idx n d' c0 r : Nat} {As rest : List Value} {Q' : a0_Po} (hd : decode μ.2.1 pc = .ok (.invokevirtual idx, 3)) (hp : pc + 3 = q) (hlk : am_lk μ.1.cls idx μ'.1) (hm : am_mV μ' n c0) (ho : am_ob G0 r c0) (hC : CT μ' d' (.ref r :: As) M V f Q') (hn : As.length = n) (hst : st = As.reverse ++ .ref r :: rest) (hd9 : d' + 1 ≤ d) (hct : (rest.map fun v => v.category).sum ≤ 8)
    (k : ∀ v M' V' f', Q' v M' V' f' → A0 μ d q ls (v.toList ++ rest) M' V' f' Q) : A0 μ d pc ls st M V f Q :=
  aw_callV (b1 := 0) (b2 := 0) q hd hp hlk hm ho hC hn hst hd9 hct (fun v g' M' V' R' _ ⟨h1, f', h2, h3⟩ => by subst h1; subst h2; exact k v M' V' f' h3)
theorem ac_callSg (q : Nat) {μ' : am_M} {idx n d' : Nat} {As rest : List Value} {Q' : a0_Po} (hd : decode μ.2.1 pc = .ok (.invokestatic idx, 3)) (hp : pc + 3 = q) (hlk : am_lk μ.1.cls idx μ'.1) (hm : am_mS μ' n) (hC : CT μ' d' As M V f Q') (hn : As.length = n) (hst : st = As.reverse ++ rest) (hd9 : d' + 1 ≤ d) (hct : (rest.map fun v => v.category).sum ≤ 8)
    (k : ∀ v M' V' f', Q' v M' V' f' → A0 μ d q ls (v.toList ++ rest) M' V' f' Q) : A0 μ d pc ls st M V f Q :=
  aw_callS (b1 := 0) (b2 := 0) q hd hp hlk hm hC hn hst hd9 hct (fun v g' M' V' R' _ ⟨h1, f', h2, h3⟩ => by subst h1; subst h2; exact k v M' V' f' h3)
theorem ac_callV (q : Nat) {μ' : am_M} {idx n d' c0 r : Nat} {As rest : List Value} {x : Int32} (hd : decode μ.2.1 pc = .ok (.invokevirtual idx, 3)) (hp : pc + 3 = q) (hlk : am_lk μ.1.cls idx μ'.1) (hm : am_mV μ' n c0) (ho : am_ob G0 r c0) (hC : CT μ' d' (.ref r :: As) M V f (RV x M V f)) (hn : As.length = n) (hst : st = As.reverse ++ .ref r :: rest) (hd9 : d' + 1 ≤ d) (hct : (rest.map fun v => v.category).sum ≤ 8)
    (k : A0 μ d q ls (.int x :: rest) M V f Q) : A0 μ d pc ls st M V f Q :=
  ac_callVg q hd hp hlk hm ho hC hn hst hd9 hct (fun v M' V' f' ⟨h1, h2, h3, h4⟩ => by subst h1; subst h2; subst h3; subst h4; exact k)
theorem ac_callS (q : Nat) {μ' : am_M} {idx n d' : Nat} {As rest : List Value} {x : Int32} (hd : decode μ.2.1 pc = .ok (.invokestatic idx, 3)) (hp : pc + 3 = q) (hlk : am_lk μ.1.cls idx μ'.1) (hm : am_mS μ' n) (hC : CT μ' d' As M V f (RV x M V f)) (hn : As.length = n) (hst : st = As.reverse ++ rest) (hd9 : d' + 1 ≤ d) (hct : (rest.map fun v => v.category).sum ≤ 8)
    (k : A0 μ d q ls (.int x :: rest) M V f Q) : A0 μ d pc ls st M V f Q :=
  ac_callSg q hd hp hlk hm hC hn hst hd9 hct (fun v M' V' f' ⟨h1, h2, h3, h4⟩ => by subst h1; subst h2; subst h3; subst h4; exact k)
theorem am_ent_of {n : Nat} {av : List Value} {ls : List (Option Value)} (h1 : ls.length ≤ n) (h2 : (lg_sl av).length ≤ n) (h3 : ∀ (i : Nat) (v : Value), ls[i]? = some (some v) → (i, v) ∈ lv_args 0 av) : am_ent n av ls := ⟨h1, h2, h3⟩
theorem CT.of {n : Nat} {av : List Value} (hm : am_m μ n) (ls : List (Option Value)) (hl : ∀ g : Nat → Nat, am_ent μ.2.2.1 (av.map (am_cv g)) (ls.map (fun o => o.map (am_cv g)))) (k : A0 μ d 0 ls [] M V f Q) : CT μ d av M V f Q := Ct.of hm.1 hm.2.1 ls hl k
end A0R
theorem en_a_1 (x0 : Nat) (g : Nat → Nat) : am_ent 1 (([Value.ref x0] : List Value).map (am_cv g)) (([some (Value.ref x0)] : List (Option Value)).map (fun o => o.map (am_cv g))) := by
  refine am_ent_of (Nat.le_of_ble_eq_true rfl) (Nat.le_of_ble_eq_true rfl) (fun i v h => ?_)
  have hi : i < 1 := (List.getElem?_eq_some_iff.mp h).1
  match i, hi, h with
  | 0, _, h => cases h; simp [lv_args, am_cv, Value.category]
theorem en_a_2 (x0 : Nat) (g : Nat → Nat) : am_ent 2 (([Value.ref x0] : List Value).map (am_cv g)) (([some (Value.ref x0), none] : List (Option Value)).map (fun o => o.map (am_cv g))) := by
  refine am_ent_of (Nat.le_of_ble_eq_true rfl) (Nat.le_of_ble_eq_true rfl) (fun i v h => ?_)
  have hi : i < 2 := (List.getElem?_eq_some_iff.mp h).1
  match i, hi, h with
  | 0, _, h => cases h; simp [lv_args, am_cv, Value.category]
  | 1, _, h => cases h
theorem en_a_3 (x0 : Nat) (g : Nat → Nat) : am_ent 3 (([Value.ref x0] : List Value).map (am_cv g)) (([some (Value.ref x0), none, none] : List (Option Value)).map (fun o => o.map (am_cv g))) := by
  refine am_ent_of (Nat.le_of_ble_eq_true rfl) (Nat.le_of_ble_eq_true rfl) (fun i v h => ?_)
  have hi : i < 3 := (List.getElem?_eq_some_iff.mp h).1
  match i, hi, h with
  | 0, _, h => cases h; simp [lv_args, am_cv, Value.category]
  | 1, _, h => cases h
  | 2, _, h => cases h
theorem en_a_6 (x0 : Nat) (g : Nat → Nat) : am_ent 6 (([Value.ref x0] : List Value).map (am_cv g)) (([some (Value.ref x0), none, none, none, none, none] : List (Option Value)).map (fun o => o.map (am_cv g))) := by
  refine am_ent_of (Nat.le_of_ble_eq_true rfl) (Nat.le_of_ble_eq_true rfl) (fun i v h => ?_)
  have hi : i < 6 := (List.getElem?_eq_some_iff.mp h).1
  match i, hi, h with
  | 0, _, h => cases h; simp [lv_args, am_cv, Value.category]
  | 1, _, h => cases h
  | 2, _, h => cases h
  | 3, _, h => cases h
  | 4, _, h => cases h
  | 5, _, h => cases h
theorem en_a_8 (x0 : Nat) (g : Nat → Nat) : am_ent 8 (([Value.ref x0] : List Value).map (am_cv g)) (([some (Value.ref x0), none, none, none, none, none, none, none] : List (Option Value)).map (fun o => o.map (am_cv g))) := by
  refine am_ent_of (Nat.le_of_ble_eq_true rfl) (Nat.le_of_ble_eq_true rfl) (fun i v h => ?_)
  have hi : i < 8 := (List.getElem?_eq_some_iff.mp h).1
  match i, hi, h with
  | 0, _, h => cases h; simp [lv_args, am_cv, Value.category]
  | 1, _, h => cases h
  | 2, _, h => cases h
  | 3, _, h => cases h
  | 4, _, h => cases h
  | 5, _, h => cases h
  | 6, _, h => cases h
  | 7, _, h => cases h
theorem en_aa_2 (x0 : Nat) (x1 : Nat) (g : Nat → Nat) : am_ent 2 (([Value.ref x0, Value.ref x1] : List Value).map (am_cv g)) (([some (Value.ref x0), some (Value.ref x1)] : List (Option Value)).map (fun o => o.map (am_cv g))) := by
  refine am_ent_of (Nat.le_of_ble_eq_true rfl) (Nat.le_of_ble_eq_true rfl) (fun i v h => ?_)
  have hi : i < 2 := (List.getElem?_eq_some_iff.mp h).1
  match i, hi, h with
  | 0, _, h => cases h; simp [lv_args, am_cv, Value.category]
  | 1, _, h => cases h; simp [lv_args, am_cv, Value.category]
theorem en_aa_3 (x0 : Nat) (x1 : Nat) (g : Nat → Nat) : am_ent 3 (([Value.ref x0, Value.ref x1] : List Value).map (am_cv g)) (([some (Value.ref x0), some (Value.ref x1), none] : List (Option Value)).map (fun o => o.map (am_cv g))) := by
  refine am_ent_of (Nat.le_of_ble_eq_true rfl) (Nat.le_of_ble_eq_true rfl) (fun i v h => ?_)
  have hi : i < 3 := (List.getElem?_eq_some_iff.mp h).1
  match i, hi, h with
  | 0, _, h => cases h; simp [lv_args, am_cv, Value.category]
  | 1, _, h => cases h; simp [lv_args, am_cv, Value.category]
  | 2, _, h => cases h
theorem en_aa_4 (x0 : Nat) (x1 : Nat) (g : Nat → Nat) : am_ent 4 (([Value.ref x0, Value.ref x1] : List Value).map (am_cv g)) (([some (Value.ref x0), some (Value.ref x1), none, none] : List (Option Value)).map (fun o => o.map (am_cv g))) := by
  refine am_ent_of (Nat.le_of_ble_eq_true rfl) (Nat.le_of_ble_eq_true rfl) (fun i v h => ?_)
  have hi : i < 4 := (List.getElem?_eq_some_iff.mp h).1
  match i, hi, h with
  | 0, _, h => cases h; simp [lv_args, am_cv, Value.category]
  | 1, _, h => cases h; simp [lv_args, am_cv, Value.category]
  | 2, _, h => cases h
  | 3, _, h => cases h
theorem en_aa_5 (x0 : Nat) (x1 : Nat) (g : Nat → Nat) : am_ent 5 (([Value.ref x0, Value.ref x1] : List Value).map (am_cv g)) (([some (Value.ref x0), some (Value.ref x1), none, none, none] : List (Option Value)).map (fun o => o.map (am_cv g))) := by
  refine am_ent_of (Nat.le_of_ble_eq_true rfl) (Nat.le_of_ble_eq_true rfl) (fun i v h => ?_)
  have hi : i < 5 := (List.getElem?_eq_some_iff.mp h).1
  match i, hi, h with
  | 0, _, h => cases h; simp [lv_args, am_cv, Value.category]
  | 1, _, h => cases h; simp [lv_args, am_cv, Value.category]
  | 2, _, h => cases h
  | 3, _, h => cases h
  | 4, _, h => cases h
theorem en_aaai_5 (x0 : Nat) (x1 : Nat) (x2 : Nat) (x3 : Int32) (g : Nat → Nat) : am_ent 5 (([Value.ref x0, Value.ref x1, Value.ref x2, Value.int x3] : List Value).map (am_cv g)) (([some (Value.ref x0), some (Value.ref x1), some (Value.ref x2), some (Value.int x3), none] : List (Option Value)).map (fun o => o.map (am_cv g))) := by
  refine am_ent_of (Nat.le_of_ble_eq_true rfl) (Nat.le_of_ble_eq_true rfl) (fun i v h => ?_)
  have hi : i < 5 := (List.getElem?_eq_some_iff.mp h).1
  match i, hi, h with
  | 0, _, h => cases h; simp [lv_args, am_cv, Value.category]
  | 1, _, h => cases h; simp [lv_args, am_cv, Value.category]
  | 2, _, h => cases h; simp [lv_args, am_cv, Value.category]
  | 3, _, h => cases h; simp [lv_args, am_cv, Value.category]
  | 4, _, h => cases h
theorem en_aai_4 (x0 : Nat) (x1 : Nat) (x2 : Int32) (g : Nat → Nat) : am_ent 4 (([Value.ref x0, Value.ref x1, Value.int x2] : List Value).map (am_cv g)) (([some (Value.ref x0), some (Value.ref x1), some (Value.int x2), none] : List (Option Value)).map (fun o => o.map (am_cv g))) := by
  refine am_ent_of (Nat.le_of_ble_eq_true rfl) (Nat.le_of_ble_eq_true rfl) (fun i v h => ?_)
  have hi : i < 4 := (List.getElem?_eq_some_iff.mp h).1
  match i, hi, h with
  | 0, _, h => cases h; simp [lv_args, am_cv, Value.category]
  | 1, _, h => cases h; simp [lv_args, am_cv, Value.category]
  | 2, _, h => cases h; simp [lv_args, am_cv, Value.category]
  | 3, _, h => cases h
theorem en_aai_5 (x0 : Nat) (x1 : Nat) (x2 : Int32) (g : Nat → Nat) : am_ent 5 (([Value.ref x0, Value.ref x1, Value.int x2] : List Value).map (am_cv g)) (([some (Value.ref x0), some (Value.ref x1), some (Value.int x2), none, none] : List (Option Value)).map (fun o => o.map (am_cv g))) := by
  refine am_ent_of (Nat.le_of_ble_eq_true rfl) (Nat.le_of_ble_eq_true rfl) (fun i v h => ?_)
  have hi : i < 5 := (List.getElem?_eq_some_iff.mp h).1
  match i, hi, h with
  | 0, _, h => cases h; simp [lv_args, am_cv, Value.category]
  | 1, _, h => cases h; simp [lv_args, am_cv, Value.category]
  | 2, _, h => cases h; simp [lv_args, am_cv, Value.category]
  | 3, _, h => cases h
  | 4, _, h => cases h
theorem en_aai_7 (x0 : Nat) (x1 : Nat) (x2 : Int32) (g : Nat → Nat) : am_ent 7 (([Value.ref x0, Value.ref x1, Value.int x2] : List Value).map (am_cv g)) (([some (Value.ref x0), some (Value.ref x1), some (Value.int x2), none, none, none, none] : List (Option Value)).map (fun o => o.map (am_cv g))) := by
  refine am_ent_of (Nat.le_of_ble_eq_true rfl) (Nat.le_of_ble_eq_true rfl) (fun i v h => ?_)
  have hi : i < 7 := (List.getElem?_eq_some_iff.mp h).1
  match i, hi, h with
  | 0, _, h => cases h; simp [lv_args, am_cv, Value.category]
  | 1, _, h => cases h; simp [lv_args, am_cv, Value.category]
  | 2, _, h => cases h; simp [lv_args, am_cv, Value.category]
  | 3, _, h => cases h
  | 4, _, h => cases h
  | 5, _, h => cases h
  | 6, _, h => cases h
theorem en_aaiiiii_8 (x0 : Nat) (x1 : Nat) (x2 : Int32) (x3 : Int32) (x4 : Int32) (x5 : Int32) (x6 : Int32) (g : Nat → Nat) : am_ent 8 (([Value.ref x0, Value.ref x1, Value.int x2, Value.int x3, Value.int x4, Value.int x5, Value.int x6] : List Value).map (am_cv g)) (([some (Value.ref x0), some (Value.ref x1), some (Value.int x2), some (Value.int x3), some (Value.int x4), some (Value.int x5), some (Value.int x6), none] : List (Option Value)).map (fun o => o.map (am_cv g))) := by
  refine am_ent_of (Nat.le_of_ble_eq_true rfl) (Nat.le_of_ble_eq_true rfl) (fun i v h => ?_)
  have hi : i < 8 := (List.getElem?_eq_some_iff.mp h).1
  match i, hi, h with
  | 0, _, h => cases h; simp [lv_args, am_cv, Value.category]
  | 1, _, h => cases h; simp [lv_args, am_cv, Value.category]
  | 2, _, h => cases h; simp [lv_args, am_cv, Value.category]
  | 3, _, h => cases h; simp [lv_args, am_cv, Value.category]
  | 4, _, h => cases h; simp [lv_args, am_cv, Value.category]
  | 5, _, h => cases h; simp [lv_args, am_cv, Value.category]
  | 6, _, h => cases h; simp [lv_args, am_cv, Value.category]
  | 7, _, h => cases h
theorem en_ai_2 (x0 : Nat) (x1 : Int32) (g : Nat → Nat) : am_ent 2 (([Value.ref x0, Value.int x1] : List Value).map (am_cv g)) (([some (Value.ref x0), some (Value.int x1)] : List (Option Value)).map (fun o => o.map (am_cv g))) := by
  refine am_ent_of (Nat.le_of_ble_eq_true rfl) (Nat.le_of_ble_eq_true rfl) (fun i v h => ?_)
  have hi : i < 2 := (List.getElem?_eq_some_iff.mp h).1
  match i, hi, h with
  | 0, _, h => cases h; simp [lv_args, am_cv, Value.category]
  | 1, _, h => cases h; simp [lv_args, am_cv, Value.category]
theorem en_ai_3 (x0 : Nat) (x1 : Int32) (g : Nat → Nat) : am_ent 3 (([Value.ref x0, Value.int x1] : List Value).map (am_cv g)) (([some (Value.ref x0), some (Value.int x1), none] : List (Option Value)).map (fun o => o.map (am_cv g))) := by
  refine am_ent_of (Nat.le_of_ble_eq_true rfl) (Nat.le_of_ble_eq_true rfl) (fun i v h => ?_)
  have hi : i < 3 := (List.getElem?_eq_some_iff.mp h).1
  match i, hi, h with
  | 0, _, h => cases h; simp [lv_args, am_cv, Value.category]
  | 1, _, h => cases h; simp [lv_args, am_cv, Value.category]
  | 2, _, h => cases h
theorem en_ai_4 (x0 : Nat) (x1 : Int32) (g : Nat → Nat) : am_ent 4 (([Value.ref x0, Value.int x1] : List Value).map (am_cv g)) (([some (Value.ref x0), some (Value.int x1), none, none] : List (Option Value)).map (fun o => o.map (am_cv g))) := by
  refine am_ent_of (Nat.le_of_ble_eq_true rfl) (Nat.le_of_ble_eq_true rfl) (fun i v h => ?_)
  have hi : i < 4 := (List.getElem?_eq_some_iff.mp h).1
  match i, hi, h with
  | 0, _, h => cases h; simp [lv_args, am_cv, Value.category]
  | 1, _, h => cases h; simp [lv_args, am_cv, Value.category]
  | 2, _, h => cases h
  | 3, _, h => cases h
theorem en_ai_5 (x0 : Nat) (x1 : Int32) (g : Nat → Nat) : am_ent 5 (([Value.ref x0, Value.int x1] : List Value).map (am_cv g)) (([some (Value.ref x0), some (Value.int x1), none, none, none] : List (Option Value)).map (fun o => o.map (am_cv g))) := by
  refine am_ent_of (Nat.le_of_ble_eq_true rfl) (Nat.le_of_ble_eq_true rfl) (fun i v h => ?_)
  have hi : i < 5 := (List.getElem?_eq_some_iff.mp h).1
  match i, hi, h with
  | 0, _, h => cases h; simp [lv_args, am_cv, Value.category]
  | 1, _, h => cases h; simp [lv_args, am_cv, Value.category]
  | 2, _, h => cases h
  | 3, _, h => cases h
  | 4, _, h => cases h
theorem en_ai_6 (x0 : Nat) (x1 : Int32) (g : Nat → Nat) : am_ent 6 (([Value.ref x0, Value.int x1] : List Value).map (am_cv g)) (([some (Value.ref x0), some (Value.int x1), none, none, none, none] : List (Option Value)).map (fun o => o.map (am_cv g))) := by
  refine am_ent_of (Nat.le_of_ble_eq_true rfl) (Nat.le_of_ble_eq_true rfl) (fun i v h => ?_)
  have hi : i < 6 := (List.getElem?_eq_some_iff.mp h).1
  match i, hi, h with
  | 0, _, h => cases h; simp [lv_args, am_cv, Value.category]
  | 1, _, h => cases h; simp [lv_args, am_cv, Value.category]
  | 2, _, h => cases h
  | 3, _, h => cases h
  | 4, _, h => cases h
  | 5, _, h => cases h
theorem en_ai_7 (x0 : Nat) (x1 : Int32) (g : Nat → Nat) : am_ent 7 (([Value.ref x0, Value.int x1] : List Value).map (am_cv g)) (([some (Value.ref x0), some (Value.int x1), none, none, none, none, none] : List (Option Value)).map (fun o => o.map (am_cv g))) := by
  refine am_ent_of (Nat.le_of_ble_eq_true rfl) (Nat.le_of_ble_eq_true rfl) (fun i v h => ?_)
  have hi : i < 7 := (List.getElem?_eq_some_iff.mp h).1
  match i, hi, h with
  | 0, _, h => cases h; simp [lv_args, am_cv, Value.category]
  | 1, _, h => cases h; simp [lv_args, am_cv, Value.category]
  | 2, _, h => cases h
  | 3, _, h => cases h
  | 4, _, h => cases h
  | 5, _, h => cases h
  | 6, _, h => cases h
theorem en_aii_3 (x0 : Nat) (x1 : Int32) (x2 : Int32) (g : Nat → Nat) : am_ent 3 (([Value.ref x0, Value.int x1, Value.int x2] : List Value).map (am_cv g)) (([some (Value.ref x0), some (Value.int x1), some (Value.int x2)] : List (Option Value)).map (fun o => o.map (am_cv g))) := by
  refine am_ent_of (Nat.le_of_ble_eq_true rfl) (Nat.le_of_ble_eq_true rfl) (fun i v h => ?_)
  have hi : i < 3 := (List.getElem?_eq_some_iff.mp h).1
  match i, hi, h with
  | 0, _, h => cases h; simp [lv_args, am_cv, Value.category]
  | 1, _, h => cases h; simp [lv_args, am_cv, Value.category]
  | 2, _, h => cases h; simp [lv_args, am_cv, Value.category]
theorem en_aii_4 (x0 : Nat) (x1 : Int32) (x2 : Int32) (g : Nat → Nat) : am_ent 4 (([Value.ref x0, Value.int x1, Value.int x2] : List Value).map (am_cv g)) (([some (Value.ref x0), some (Value.int x1), some (Value.int x2), none] : List (Option Value)).map (fun o => o.map (am_cv g))) := by
  refine am_ent_of (Nat.le_of_ble_eq_true rfl) (Nat.le_of_ble_eq_true rfl) (fun i v h => ?_)
  have hi : i < 4 := (List.getElem?_eq_some_iff.mp h).1
  match i, hi, h with
  | 0, _, h => cases h; simp [lv_args, am_cv, Value.category]
  | 1, _, h => cases h; simp [lv_args, am_cv, Value.category]
  | 2, _, h => cases h; simp [lv_args, am_cv, Value.category]
  | 3, _, h => cases h
theorem en_aii_5 (x0 : Nat) (x1 : Int32) (x2 : Int32) (g : Nat → Nat) : am_ent 5 (([Value.ref x0, Value.int x1, Value.int x2] : List Value).map (am_cv g)) (([some (Value.ref x0), some (Value.int x1), some (Value.int x2), none, none] : List (Option Value)).map (fun o => o.map (am_cv g))) := by
  refine am_ent_of (Nat.le_of_ble_eq_true rfl) (Nat.le_of_ble_eq_true rfl) (fun i v h => ?_)
  have hi : i < 5 := (List.getElem?_eq_some_iff.mp h).1
  match i, hi, h with
  | 0, _, h => cases h; simp [lv_args, am_cv, Value.category]
  | 1, _, h => cases h; simp [lv_args, am_cv, Value.category]
  | 2, _, h => cases h; simp [lv_args, am_cv, Value.category]
  | 3, _, h => cases h
  | 4, _, h => cases h
theorem en_aii_6 (x0 : Nat) (x1 : Int32) (x2 : Int32) (g : Nat → Nat) : am_ent 6 (([Value.ref x0, Value.int x1, Value.int x2] : List Value).map (am_cv g)) (([some (Value.ref x0), some (Value.int x1), some (Value.int x2), none, none, none] : List (Option Value)).map (fun o => o.map (am_cv g))) := by
  refine am_ent_of (Nat.le_of_ble_eq_true rfl) (Nat.le_of_ble_eq_true rfl) (fun i v h => ?_)
  have hi : i < 6 := (List.getElem?_eq_some_iff.mp h).1
  match i, hi, h with
  | 0, _, h => cases h; simp [lv_args, am_cv, Value.category]
  | 1, _, h => cases h; simp [lv_args, am_cv, Value.category]
  | 2, _, h => cases h; simp [lv_args, am_cv, Value.category]
  | 3, _, h => cases h
  | 4, _, h => cases h
  | 5, _, h => cases h
theorem en_aii_8 (x0 : Nat) (x1 : Int32) (x2 : Int32) (g : Nat → Nat) : am_ent 8 (([Value.ref x0, Value.int x1, Value.int x2] : List Value).map (am_cv g)) (([some (Value.ref x0), some (Value.int x1), some (Value.int x2), none, none, none, none, none] : List (Option Value)).map (fun o => o.map (am_cv g))) := by
  refine am_ent_of (Nat.le_of_ble_eq_true rfl) (Nat.le_of_ble_eq_true rfl) (fun i v h => ?_)
  have hi : i < 8 := (List.getElem?_eq_some_iff.mp h).1
  match i, hi, h with
  | 0, _, h => cases h; simp [lv_args, am_cv, Value.category]
  | 1, _, h => cases h; simp [lv_args, am_cv, Value.category]
  | 2, _, h => cases h; simp [lv_args, am_cv, Value.category]
  | 3, _, h => cases h
  | 4, _, h => cases h
  | 5, _, h => cases h
  | 6, _, h => cases h
  | 7, _, h => cases h
theorem en_aii_9 (x0 : Nat) (x1 : Int32) (x2 : Int32) (g : Nat → Nat) : am_ent 9 (([Value.ref x0, Value.int x1, Value.int x2] : List Value).map (am_cv g)) (([some (Value.ref x0), some (Value.int x1), some (Value.int x2), none, none, none, none, none, none] : List (Option Value)).map (fun o => o.map (am_cv g))) := by
  refine am_ent_of (Nat.le_of_ble_eq_true rfl) (Nat.le_of_ble_eq_true rfl) (fun i v h => ?_)
  have hi : i < 9 := (List.getElem?_eq_some_iff.mp h).1
  match i, hi, h with
  | 0, _, h => cases h; simp [lv_args, am_cv, Value.category]
  | 1, _, h => cases h; simp [lv_args, am_cv, Value.category]
  | 2, _, h => cases h; simp [lv_args, am_cv, Value.category]
  | 3, _, h => cases h
  | 4, _, h => cases h
  | 5, _, h => cases h
  | 6, _, h => cases h
  | 7, _, h => cases h
  | 8, _, h => cases h
theorem en_aii_10 (x0 : Nat) (x1 : Int32) (x2 : Int32) (g : Nat → Nat) : am_ent 10 (([Value.ref x0, Value.int x1, Value.int x2] : List Value).map (am_cv g)) (([some (Value.ref x0), some (Value.int x1), some (Value.int x2), none, none, none, none, none, none, none] : List (Option Value)).map (fun o => o.map (am_cv g))) := by
  refine am_ent_of (Nat.le_of_ble_eq_true rfl) (Nat.le_of_ble_eq_true rfl) (fun i v h => ?_)
  have hi : i < 10 := (List.getElem?_eq_some_iff.mp h).1
  match i, hi, h with
  | 0, _, h => cases h; simp [lv_args, am_cv, Value.category]
  | 1, _, h => cases h; simp [lv_args, am_cv, Value.category]
  | 2, _, h => cases h; simp [lv_args, am_cv, Value.category]
  | 3, _, h => cases h
  | 4, _, h => cases h
  | 5, _, h => cases h
  | 6, _, h => cases h
  | 7, _, h => cases h
  | 8, _, h => cases h
  | 9, _, h => cases h
theorem en_aiia_5 (x0 : Nat) (x1 : Int32) (x2 : Int32) (x3 : Nat) (g : Nat → Nat) : am_ent 5 (([Value.ref x0, Value.int x1, Value.int x2, Value.ref x3] : List Value).map (am_cv g)) (([some (Value.ref x0), some (Value.int x1), some (Value.int x2), some (Value.ref x3), none] : List (Option Value)).map (fun o => o.map (am_cv g))) := by
  refine am_ent_of (Nat.le_of_ble_eq_true rfl) (Nat.le_of_ble_eq_true rfl) (fun i v h => ?_)
  have hi : i < 5 := (List.getElem?_eq_some_iff.mp h).1
  match i, hi, h with
  | 0, _, h => cases h; simp [lv_args, am_cv, Value.category]
  | 1, _, h => cases h; simp [lv_args, am_cv, Value.category]
  | 2, _, h => cases h; simp [lv_args, am_cv, Value.category]
  | 3, _, h => cases h; simp [lv_args, am_cv, Value.category]
  | 4, _, h => cases h
theorem en_aiii_4 (x0 : Nat) (x1 : Int32) (x2 : Int32) (x3 : Int32) (g : Nat → Nat) : am_ent 4 (([Value.ref x0, Value.int x1, Value.int x2, Value.int x3] : List Value).map (am_cv g)) (([some (Value.ref x0), some (Value.int x1), some (Value.int x2), some (Value.int x3)] : List (Option Value)).map (fun o => o.map (am_cv g))) := by
  refine am_ent_of (Nat.le_of_ble_eq_true rfl) (Nat.le_of_ble_eq_true rfl) (fun i v h => ?_)
  have hi : i < 4 := (List.getElem?_eq_some_iff.mp h).1
  match i, hi, h with
  | 0, _, h => cases h; simp [lv_args, am_cv, Value.category]
  | 1, _, h => cases h; simp [lv_args, am_cv, Value.category]
  | 2, _, h => cases h; simp [lv_args, am_cv, Value.category]
  | 3, _, h => cases h; simp [lv_args, am_cv, Value.category]
theorem en_aiii_6 (x0 : Nat) (x1 : Int32) (x2 : Int32) (x3 : Int32) (g : Nat → Nat) : am_ent 6 (([Value.ref x0, Value.int x1, Value.int x2, Value.int x3] : List Value).map (am_cv g)) (([some (Value.ref x0), some (Value.int x1), some (Value.int x2), some (Value.int x3), none, none] : List (Option Value)).map (fun o => o.map (am_cv g))) := by
  refine am_ent_of (Nat.le_of_ble_eq_true rfl) (Nat.le_of_ble_eq_true rfl) (fun i v h => ?_)
  have hi : i < 6 := (List.getElem?_eq_some_iff.mp h).1
  match i, hi, h with
  | 0, _, h => cases h; simp [lv_args, am_cv, Value.category]
  | 1, _, h => cases h; simp [lv_args, am_cv, Value.category]
  | 2, _, h => cases h; simp [lv_args, am_cv, Value.category]
  | 3, _, h => cases h; simp [lv_args, am_cv, Value.category]
  | 4, _, h => cases h
  | 5, _, h => cases h
theorem en_aiiii_5 (x0 : Nat) (x1 : Int32) (x2 : Int32) (x3 : Int32) (x4 : Int32) (g : Nat → Nat) : am_ent 5 (([Value.ref x0, Value.int x1, Value.int x2, Value.int x3, Value.int x4] : List Value).map (am_cv g)) (([some (Value.ref x0), some (Value.int x1), some (Value.int x2), some (Value.int x3), some (Value.int x4)] : List (Option Value)).map (fun o => o.map (am_cv g))) := by
  refine am_ent_of (Nat.le_of_ble_eq_true rfl) (Nat.le_of_ble_eq_true rfl) (fun i v h => ?_)
  have hi : i < 5 := (List.getElem?_eq_some_iff.mp h).1
  match i, hi, h with
  | 0, _, h => cases h; simp [lv_args, am_cv, Value.category]
  | 1, _, h => cases h; simp [lv_args, am_cv, Value.category]
  | 2, _, h => cases h; simp [lv_args, am_cv, Value.category]
  | 3, _, h => cases h; simp [lv_args, am_cv, Value.category]
  | 4, _, h => cases h; simp [lv_args, am_cv, Value.category]
theorem en_aiiii_7 (x0 : Nat) (x1 : Int32) (x2 : Int32) (x3 : Int32) (x4 : Int32) (g : Nat → Nat) : am_ent 7 (([Value.ref x0, Value.int x1, Value.int x2, Value.int x3, Value.int x4] : List Value).map (am_cv g)) (([some (Value.ref x0), some (Value.int x1), some (Value.int x2), some (Value.int x3), some (Value.int x4), none, none] : List (Option Value)).map (fun o => o.map (am_cv g))) := by
  refine am_ent_of (Nat.le_of_ble_eq_true rfl) (Nat.le_of_ble_eq_true rfl) (fun i v h => ?_)
  have hi : i < 7 := (List.getElem?_eq_some_iff.mp h).1
  match i, hi, h with
  | 0, _, h => cases h; simp [lv_args, am_cv, Value.category]
  | 1, _, h => cases h; simp [lv_args, am_cv, Value.category]
  | 2, _, h => cases h; simp [lv_args, am_cv, Value.category]
  | 3, _, h => cases h; simp [lv_args, am_cv, Value.category]
  | 4, _, h => cases h; simp [lv_args, am_cv, Value.category]
  | 5, _, h => cases h
  | 6, _, h => cases h
theorem en_i_1 (x0 : Int32) (g : Nat → Nat) : am_ent 1 (([Value.int x0] : List Value).map (am_cv g)) (([some (Value.int x0)] : List (Option Value)).map (fun o => o.map (am_cv g))) := by
  refine am_ent_of (Nat.le_of_ble_eq_true rfl) (Nat.le_of_ble_eq_true rfl) (fun i v h => ?_)
  have hi : i < 1 := (List.getElem?_eq_some_iff.mp h).1
  match i, hi, h with
  | 0, _, h => cases h; simp [lv_args, am_cv, Value.category]
theorem en_ia_2 (x0 : Int32) (x1 : Nat) (g : Nat → Nat) : am_ent 2 (([Value.int x0, Value.ref x1] : List Value).map (am_cv g)) (([some (Value.int x0), some (Value.ref x1)] : List (Option Value)).map (fun o => o.map (am_cv g))) := by
  refine am_ent_of (Nat.le_of_ble_eq_true rfl) (Nat.le_of_ble_eq_true rfl) (fun i v h => ?_)
  have hi : i < 2 := (List.getElem?_eq_some_iff.mp h).1
  match i, hi, h with
  | 0, _, h => cases h; simp [lv_args, am_cv, Value.category]
  | 1, _, h => cases h; simp [lv_args, am_cv, Value.category]
theorem en_ii_2 (x0 : Int32) (x1 : Int32) (g : Nat → Nat) : am_ent 2 (([Value.int x0, Value.int x1] : List Value).map (am_cv g)) (([some (Value.int x0), some (Value.int x1)] : List (Option Value)).map (fun o => o.map (am_cv g))) := by
  refine am_ent_of (Nat.le_of_ble_eq_true rfl) (Nat.le_of_ble_eq_true rfl) (fun i v h => ?_)
  have hi : i < 2 := (List.getElem?_eq_some_iff.mp h).1
  match i, hi, h with
  | 0, _, h => cases h; simp [lv_args, am_cv, Value.category]
  | 1, _, h => cases h; simp [lv_args, am_cv, Value.category]
theorem en_iia_3 (x0 : Int32) (x1 : Int32) (x2 : Nat) (g : Nat → Nat) : am_ent 3 (([Value.int x0, Value.int x1, Value.ref x2] : List Value).map (am_cv g)) (([some (Value.int x0), some (Value.int x1), some (Value.ref x2)] : List (Option Value)).map (fun o => o.map (am_cv g))) := by
  refine am_ent_of (Nat.le_of_ble_eq_true rfl) (Nat.le_of_ble_eq_true rfl) (fun i v h => ?_)
  have hi : i < 3 := (List.getElem?_eq_some_iff.mp h).1
  match i, hi, h with
  | 0, _, h => cases h; simp [lv_args, am_cv, Value.category]
  | 1, _, h => cases h; simp [lv_args, am_cv, Value.category]
  | 2, _, h => cases h; simp [lv_args, am_cv, Value.category]
theorem en_iii_3 (x0 : Int32) (x1 : Int32) (x2 : Int32) (g : Nat → Nat) : am_ent 3 (([Value.int x0, Value.int x1, Value.int x2] : List Value).map (am_cv g)) (([some (Value.int x0), some (Value.int x1), some (Value.int x2)] : List (Option Value)).map (fun o => o.map (am_cv g))) := by
  refine am_ent_of (Nat.le_of_ble_eq_true rfl) (Nat.le_of_ble_eq_true rfl) (fun i v h => ?_)
  have hi : i < 3 := (List.getElem?_eq_some_iff.mp h).1
  match i, hi, h with
  | 0, _, h => cases h; simp [lv_args, am_cv, Value.category]
  | 1, _, h => cases h; simp [lv_args, am_cv, Value.category]
  | 2, _, h => cases h; simp [lv_args, am_cv, Value.category]
theorem en_ji_3 (x0 : Int64) (x1 : Int32) (g : Nat → Nat) : am_ent 3 (([Value.long x0, Value.int x1] : List Value).map (am_cv g)) (([some (Value.long x0), none, some (Value.int x1)] : List (Option Value)).map (fun o => o.map (am_cv g))) := by
  refine am_ent_of (Nat.le_of_ble_eq_true rfl) (Nat.le_of_ble_eq_true rfl) (fun i v h => ?_)
  have hi : i < 3 := (List.getElem?_eq_some_iff.mp h).1
  match i, hi, h with
  | 0, _, h => cases h; simp [lv_args, am_cv, Value.category]
  | 1, _, h => cases h
  | 2, _, h => cases h; simp [lv_args, am_cv, Value.category]
end
section
/-! Links of the class to members of the JDK. -/
theorem lkj7_1 : Cond.methodLink RX7 1 objectInit ∈ am_g := am_gi 22 (by decide +kernel) rfl
theorem lkj2_3 : Cond.methodLink RX2 3 objectInit ∈ am_g := am_gi 30 (by decide +kernel) rfl
theorem lkj5_3 : Cond.methodLink RX5 3 objectInit ∈ am_g := am_gi 36 (by decide +kernel) rfl
theorem lkj6_3 : Cond.methodLink RX6 3 objectInit ∈ am_g := am_gi 79 (by decide +kernel) rfl
theorem lkj1_3 : Cond.methodLink RX1 3 objectInit ∈ am_g := am_gi 168 (by decide +kernel) rfl
theorem lkj3_3 : Cond.methodLink RX3 3 objectInit ∈ am_g := am_gi 185 (by decide +kernel) rfl
theorem lkj0_3 : Cond.methodLink RX0 3 objectInit ∈ am_g := am_gi 235 (by decide +kernel) rfl
theorem lkj4_3 : Cond.methodLink RX4 3 objectInit ∈ am_g := am_gi 245 (by decide +kernel) rfl
theorem lkj5_81 : Cond.methodLink RX5 81 Lib.Math.min.name ∈ am_g := am_gi 382 (by decide +kernel) rfl
theorem lkj5_39 : Cond.methodLink RX5 39 Lib.Math.max.name ∈ am_g := am_gi 397 (by decide +kernel) rfl
theorem lkj6_61 : Cond.methodLink RX6 61 arraycopyName ∈ am_g := am_gi 465 (by decide +kernel) rfl
theorem lkj7_168 : Cond.methodLink RX7 168 Lib.Math.abs.name ∈ am_g := am_gi 581 (by decide +kernel) rfl
theorem lkj3_99 : Cond.methodLink RX3 99 Lib.Math.abs.name ∈ am_g := am_gi 607 (by decide +kernel) rfl
theorem lkj3_112 : Cond.methodLink RX3 112 arraycopyName ∈ am_g := am_gi 612 (by decide +kernel) rfl
theorem lkj0_39 : Cond.methodLink RX0 39 Lib.Math.min.name ∈ am_g := am_gi 657 (by decide +kernel) rfl
theorem lkj8_1 : Cond.methodLink RX8 1 objectInit ∈ am_g := am_gi 725 (by decide +kernel) rfl
theorem flo5_11 : Cond.fieldLink RX5 11 (am_T 5 0).1 (am_T 5 0).2.1 (am_T 5 0).2.2.1 ∈ am_g := am_gi 37 (by decide +kernel) rfl
theorem flo5_15 : Cond.fieldLink RX5 15 (am_T 5 1).1 (am_T 5 1).2.1 (am_T 5 1).2.2.1 ∈ am_g := am_gi 39 (by decide +kernel) rfl
theorem flo5_18 : Cond.fieldLink RX5 18 (am_T 5 2).1 (am_T 5 2).2.1 (am_T 5 2).2.2.1 ∈ am_g := am_gi 41 (by decide +kernel) rfl
theorem flo2_12 : Cond.fieldLink RX2 12 (am_T 2 0).1 (am_T 2 0).2.1 (am_T 2 0).2.2.1 ∈ am_g := am_gi 55 (by decide +kernel) rfl
theorem flo6_9 : Cond.fieldLink RX6 9 (am_T 6 6).1 (am_T 6 6).2.1 (am_T 6 6).2.2.1 ∈ am_g := am_gi 108 (by decide +kernel) rfl
theorem flo6_15 : Cond.fieldLink RX6 15 (am_T 6 7).1 (am_T 6 7).2.1 (am_T 6 7).2.2.1 ∈ am_g := am_gi 113 (by decide +kernel) rfl
theorem flo6_18 : Cond.fieldLink RX6 18 (am_T 6 8).1 (am_T 6 8).2.1 (am_T 6 8).2.2.1 ∈ am_g := am_gi 116 (by decide +kernel) rfl
theorem flo6_21 : Cond.fieldLink RX6 21 (am_T 6 9).1 (am_T 6 9).2.1 (am_T 6 9).2.2.1 ∈ am_g := am_gi 118 (by decide +kernel) rfl
theorem flo6_24 : Cond.fieldLink RX6 24 (am_T 6 10).1 (am_T 6 10).2.1 (am_T 6 10).2.2.1 ∈ am_g := am_gi 122 (by decide +kernel) rfl
theorem flo6_27 : Cond.fieldLink RX6 27 (am_T 6 11).1 (am_T 6 11).2.1 (am_T 6 11).2.2.1 ∈ am_g := am_gi 124 (by decide +kernel) rfl
theorem flo6_30 : Cond.fieldLink RX6 30 (am_T 6 12).1 (am_T 6 12).2.1 (am_T 6 12).2.2.1 ∈ am_g := am_gi 126 (by decide +kernel) rfl
theorem flo6_33 : Cond.fieldLink RX6 33 (am_T 6 13).1 (am_T 6 13).2.1 (am_T 6 13).2.2.1 ∈ am_g := am_gi 128 (by decide +kernel) rfl
theorem flo6_36 : Cond.fieldLink RX6 36 (am_T 6 14).1 (am_T 6 14).2.1 (am_T 6 14).2.2.1 ∈ am_g := am_gi 130 (by decide +kernel) rfl
theorem flo1_11 : Cond.fieldLink RX1 11 (am_T 1 0).1 (am_T 1 0).2.1 (am_T 1 0).2.2.1 ∈ am_g := am_gi 172 (by decide +kernel) rfl
theorem flo3_9 : Cond.fieldLink RX3 9 (am_T 3 0).1 (am_T 3 0).2.1 (am_T 3 0).2.2.1 ∈ am_g := am_gi 186 (by decide +kernel) rfl
theorem flo3_15 : Cond.fieldLink RX3 15 (am_T 3 1).1 (am_T 3 1).2.1 (am_T 3 1).2.2.1 ∈ am_g := am_gi 187 (by decide +kernel) rfl
theorem flo3_18 : Cond.fieldLink RX3 18 (am_T 3 2).1 (am_T 3 2).2.1 (am_T 3 2).2.2.1 ∈ am_g := am_gi 188 (by decide +kernel) rfl
theorem flo3_22 : Cond.fieldLink RX3 22 (am_T 3 3).1 (am_T 3 3).2.1 (am_T 3 3).2.2.1 ∈ am_g := am_gi 189 (by decide +kernel) rfl
theorem flo0_11 : Cond.fieldLink RX0 11 (am_T 0 0).1 (am_T 0 0).2.1 (am_T 0 0).2.2.1 ∈ am_g := am_gi 236 (by decide +kernel) rfl
theorem flo4_9 : Cond.fieldLink RX4 9 (am_T 4 0).1 (am_T 4 0).2.1 (am_T 4 0).2.2.1 ∈ am_g := am_gi 246 (by decide +kernel) rfl
theorem flo4_15 : Cond.fieldLink RX4 15 (am_T 4 1).1 (am_T 4 1).2.1 (am_T 4 1).2.2.1 ∈ am_g := am_gi 247 (by decide +kernel) rfl
theorem flo7_9 : Cond.fieldLink RX7 9 (am_T 7 0).1 (am_T 7 0).2.1 (am_T 7 0).2.2.1 ∈ am_g := am_gi 257 (by decide +kernel) rfl
theorem flo7_20 : Cond.fieldLink RX7 20 (am_T 7 2).1 (am_T 7 2).2.1 (am_T 7 2).2.2.1 ∈ am_g := am_gi 259 (by decide +kernel) rfl
theorem flo7_27 : Cond.fieldLink RX7 27 (am_T 7 3).1 (am_T 7 3).2.1 (am_T 7 3).2.2.1 ∈ am_g := am_gi 260 (by decide +kernel) rfl
theorem flo7_31 : Cond.fieldLink RX7 31 (am_T 7 4).1 (am_T 7 4).2.1 (am_T 7 4).2.2.1 ∈ am_g := am_gi 261 (by decide +kernel) rfl
theorem flo7_37 : Cond.fieldLink RX7 37 (am_T 7 5).1 (am_T 7 5).2.1 (am_T 7 5).2.2.1 ∈ am_g := am_gi 262 (by decide +kernel) rfl
theorem flo7_44 : Cond.fieldLink RX7 44 (am_T 7 6).1 (am_T 7 6).2.1 (am_T 7 6).2.2.1 ∈ am_g := am_gi 263 (by decide +kernel) rfl
theorem flo7_55 : Cond.fieldLink RX7 55 (am_T 7 8).1 (am_T 7 8).2.1 (am_T 7 8).2.2.1 ∈ am_g := am_gi 265 (by decide +kernel) rfl
theorem flo7_62 : Cond.fieldLink RX7 62 (am_T 7 9).1 (am_T 7 9).2.1 (am_T 7 9).2.2.1 ∈ am_g := am_gi 266 (by decide +kernel) rfl
theorem flo7_66 : Cond.fieldLink RX7 66 (am_T 7 10).1 (am_T 7 10).2.1 (am_T 7 10).2.2.1 ∈ am_g := am_gi 267 (by decide +kernel) rfl
theorem flo7_70 : Cond.fieldLink RX7 70 (am_T 7 11).1 (am_T 7 11).2.1 (am_T 7 11).2.2.1 ∈ am_g := am_gi 268 (by decide +kernel) rfl
theorem flo8_7 : Cond.fieldLink RX8 7 (am_T 8 0).1 (am_T 8 0).2.1 (am_T 8 0).2.2.1 ∈ am_g := am_gi 729 (by decide +kernel) rfl
theorem flo8_13 : Cond.fieldLink RX8 13 (am_T 8 1).1 (am_T 8 1).2.1 (am_T 8 1).2.2.1 ∈ am_g := am_gi 730 (by decide +kernel) rfl
theorem flo8_16 : Cond.fieldLink RX8 16 (am_T 8 2).1 (am_T 8 2).2.1 (am_T 8 2).2.2.1 ∈ am_g := am_gi 731 (by decide +kernel) rfl
theorem flo8_19 : Cond.fieldLink RX8 19 (am_T 8 4).1 (am_T 8 4).2.1 (am_T 8 4).2.2.1 ∈ am_g := am_gi 733 (by decide +kernel) rfl
theorem flo8_22 : Cond.fieldLink RX8 22 (am_T 8 5).1 (am_T 8 5).2.1 (am_T 8 5).2.2.1 ∈ am_g := am_gi 734 (by decide +kernel) rfl
theorem flo8_26 : Cond.fieldLink RX8 26 (am_T 8 7).1 (am_T 8 7).2.1 (am_T 8 7).2.2.1 ∈ am_g := am_gi 736 (by decide +kernel) rfl
theorem flo8_29 : Cond.fieldLink RX8 29 (am_T 8 8).1 (am_T 8 8).2.1 (am_T 8 8).2.2.1 ∈ am_g := am_gi 737 (by decide +kernel) rfl
theorem flo8_32 : Cond.fieldLink RX8 32 (am_T 8 9).1 (am_T 8 9).2.1 (am_T 8 9).2.2.1 ∈ am_g := am_gi 738 (by decide +kernel) rfl
theorem flo8_35 : Cond.fieldLink RX8 35 (am_T 8 14).1 (am_T 8 14).2.1 (am_T 8 14).2.2.1 ∈ am_g := am_gi 743 (by decide +kernel) rfl
theorem flo8_38 : Cond.fieldLink RX8 38 (am_T 8 15).1 (am_T 8 15).2.1 (am_T 8 15).2.2.1 ∈ am_g := am_gi 744 (by decide +kernel) rfl
theorem flo8_41 : Cond.fieldLink RX8 41 (am_T 8 16).1 (am_T 8 16).2.1 (am_T 8 16).2.2.1 ∈ am_g := am_gi 745 (by decide +kernel) rfl
theorem flo8_44 : Cond.fieldLink RX8 44 (am_T 8 18).1 (am_T 8 18).2.1 (am_T 8 18).2.2.1 ∈ am_g := am_gi 747 (by decide +kernel) rfl
theorem flo8_47 : Cond.fieldLink RX8 47 (am_T 8 19).1 (am_T 8 19).2.1 (am_T 8 19).2.2.1 ∈ am_g := am_gi 748 (by decide +kernel) rfl
theorem flo8_50 : Cond.fieldLink RX8 50 (am_T 8 20).1 (am_T 8 20).2.1 (am_T 8 20).2.2.1 ∈ am_g := am_gi 749 (by decide +kernel) rfl
theorem ix_of {i : Int32} {k n : Nat} (h : i = nI k) (hk : k < n) (hn : n < 2 ^ 31) : ix i n k := by
  subst h
  exact ix_nI hk hn
end
section
/-! The reference: its small methods. -/
set_option maxRecDepth 20000 in
theorem c8_within {M : am_I} {V : am_J} {f : Nat → Option Nat} (v lo hi : Int32) : CT m8_within 1 [Value.int v, Value.int lo, Value.int hi] M V f (RV (bi (lo ≤ v ∧ v ≤ hi)) M V f) := by
  refine CT.of m8_within_S.1 _ (en_iii_3 v lo hi) ?_
  refine ac_iload_n 1 dX8_within_0 rfl rfl ?_
  refine ac_iload_n 2 dX8_within_1 rfl rfl ?_
  refine ac_icmp_lt 14 5 dX8_within_2 (by decide) rfl (fun c_2 => ?_) (fun c_2 => ?_)
  · refine ac_iconst 15 0 dX8_within_14 rfl (by decide) ?_
    refine ac_iret dX8_within_15 ⟨_, rfl, rfl⟩ ?_
    exact rv_mk (bi_f (by simp only [Int32.le_iff_toInt_le, Int32.lt_iff_toInt_lt] at *; omega)).symm
  · refine ac_iload_n 6 dX8_within_5 rfl rfl ?_
    refine ac_iload_n 7 dX8_within_6 rfl rfl ?_
    refine ac_icmp_gt 14 10 dX8_within_7 (by decide) rfl (fun c_7 => ?_) (fun c_7 => ?_)
    · refine ac_iconst 15 0 dX8_within_14 rfl (by decide) ?_
      refine ac_iret dX8_within_15 ⟨_, rfl, rfl⟩ ?_
      exact rv_mk (bi_f (by simp only [Int32.le_iff_toInt_le, Int32.lt_iff_toInt_lt] at *; omega)).symm
    · refine ac_iconst 11 1 dX8_within_10 rfl (by decide) ?_
      refine ac_goto 15 dX8_within_11 (by decide) ?_
      refine ac_iret dX8_within_15 ⟨_, rfl, rfl⟩ ?_
      exact rv_mk (bi_t (by simp only [Int32.le_iff_toInt_le, Int32.lt_iff_toInt_lt] at *; omega)).symm
set_option maxRecDepth 20000 in
theorem c8_isPicture {M : am_I} {V : am_J} {f : Nat → Option Nat} (p : Int32) : CT m8_isPicture 2 [Value.ref 121, Value.int p] M V f (RV (bi (0 ≤ p ∧ p ≤ M 122 3 - 1)) M V f) := by
  refine CT.of m8_isPicture_V.1 _ (en_ai_2 121 p) ?_
  refine ac_iload_n 1 dX8_isPicture_0 rfl rfl ?_
  refine ac_iconst 2 0 dX8_isPicture_1 rfl (by decide) ?_
  refine ac_aload_n 3 dX8_isPicture_2 rfl rfl ?_
  refine ac_getO 6 122 dX8_isPicture_3 rfl fl8_7 ob121 rfl ?_
  refine ac_iconst 7 3 dX8_isPicture_6 rfl (by decide) ?_
  refine ac_iald 8 dX8_isPicture_7 rfl ar122 (ix_nI (k := 3) (by decide) (by decide)) ?_
  refine ac_iconst 9 1 dX8_isPicture_8 rfl (by decide) ?_
  refine ac_isub 10 dX8_isPicture_9 rfl ?_
  refine ac_callS (μ' := m8_within) 13 dX8_isPicture_10 rfl lk8_67 m8_within_S (c8_within _ _ _) rfl rfl (by decide) (Nat.le_of_ble_eq_true rfl) ?_
  refine ac_iret dX8_isPicture_13 (bi_nr rfl _) ?_
  exact rv_mk rfl
set_option maxRecDepth 20000 in
theorem c8_ofPicture {M : am_I} {V : am_J} {f : Nat → Option Nat} {j w : Nat} (hj : j < 5) (hw : w < 4) : CT m8_ofPicture 1 [Value.ref 121, Value.int (nI j), Value.int (nI w)] M V f (RV (M 122 (4 + 4 * j + w)) M V f) := by
  refine CT.of m8_ofPicture_V.1 _ (en_aii_3 121 (nI j) (nI w)) ?_
  refine ac_aload_n 1 dX8_ofPicture_0 rfl rfl ?_
  refine ac_getO 4 122 dX8_ofPicture_1 rfl fl8_7 ob121 rfl ?_
  refine ac_iconst 5 4 dX8_ofPicture_4 rfl (by decide) ?_
  refine ac_iconst 6 4 dX8_ofPicture_5 rfl (by decide) ?_
  refine ac_iload_n 7 dX8_ofPicture_6 rfl rfl ?_
  refine ac_imul 8 dX8_ofPicture_7 rfl ?_
  refine ac_iadd 9 dX8_ofPicture_8 rfl ?_
  refine ac_iload_n 10 dX8_ofPicture_9 rfl rfl ?_
  refine ac_iadd 11 dX8_ofPicture_10 rfl ?_
  refine ac_iald 12 dX8_ofPicture_11 rfl ar122 (ix_of (k := ((4 + (4 * (j))) + (w))) (by simp only [show (4 : Int32) = nI 4 from rfl, pk_mul, nI_add]) (by omega) (by decide)) ?_
  refine ac_iret dX8_ofPicture_12 ⟨_, rfl, rfl⟩ ?_
  exact rv_mk rfl
set_option maxRecDepth 20000 in
theorem c8_hookX {M : am_I} {V : am_J} {f : Nat → Option Nat} {j : Nat} (hj : j < 5) (x : Int32) : CT m8_hookX 2 [Value.ref 121, Value.int (nI j), Value.int x] M V f (RV (2 * x + M 122 (4 + 4 * j)) M V f) := by
  refine CT.of m8_hookX_V.1 _ (en_aii_3 121 (nI j) x) ?_
  refine ac_iconst 1 2 dX8_hookX_0 rfl (by decide) ?_
  refine ac_iload_n 2 dX8_hookX_1 rfl rfl ?_
  refine ac_imul 3 dX8_hookX_2 rfl ?_
  refine ac_aload_n 4 dX8_hookX_3 rfl rfl ?_
  refine ac_iload_n 5 dX8_hookX_4 rfl rfl ?_
  refine ac_iconst 6 0 dX8_hookX_5 rfl (by decide) ?_
  refine ac_callV (μ' := m8_ofPicture) 9 dX8_hookX_6 rfl lk8_118 m8_ofPicture_V ob121 (c8_ofPicture (w := 0) hj (by decide)) rfl rfl (by decide) (Nat.le_of_ble_eq_true rfl) ?_
  refine ac_iadd 10 dX8_hookX_9 rfl ?_
  refine ac_iret dX8_hookX_10 ⟨_, rfl, rfl⟩ ?_
  exact rv_mk rfl
set_option maxRecDepth 20000 in
theorem c8_hookY {M : am_I} {V : am_J} {f : Nat → Option Nat} {j : Nat} (hj : j < 5) : CT m8_hookY 2 [Value.ref 121, Value.int (nI j)] M V f (RV (2 * M 122 1 + M 122 (4 + 4 * j + 1) - 2 * M 122 (4 + 4 * j + 2)) M V f) := by
  refine CT.of m8_hookY_V.1 _ (en_ai_2 121 (nI j)) ?_
  refine ac_iconst 1 2 dX8_hookY_0 rfl (by decide) ?_
  refine ac_aload_n 2 dX8_hookY_1 rfl rfl ?_
  refine ac_getO 5 122 dX8_hookY_2 rfl fl8_7 ob121 rfl ?_
  refine ac_iconst 6 1 dX8_hookY_5 rfl (by decide) ?_
  refine ac_iald 7 dX8_hookY_6 rfl ar122 (ix_nI (k := 1) (by decide) (by decide)) ?_
  refine ac_imul 8 dX8_hookY_7 rfl ?_
  refine ac_aload_n 9 dX8_hookY_8 rfl rfl ?_
  refine ac_iload_n 10 dX8_hookY_9 rfl rfl ?_
  refine ac_iconst 11 1 dX8_hookY_10 rfl (by decide) ?_
  refine ac_callV (μ' := m8_ofPicture) 14 dX8_hookY_11 rfl lk8_118 m8_ofPicture_V ob121 (c8_ofPicture (w := 1) hj (by decide)) rfl rfl (by decide) (Nat.le_of_ble_eq_true rfl) ?_
  refine ac_iadd 15 dX8_hookY_14 rfl ?_
  refine ac_iconst 16 2 dX8_hookY_15 rfl (by decide) ?_
  refine ac_aload_n 17 dX8_hookY_16 rfl rfl ?_
  refine ac_iload_n 18 dX8_hookY_17 rfl rfl ?_
  refine ac_iconst 19 2 dX8_hookY_18 rfl (by decide) ?_
  refine ac_callV (μ' := m8_ofPicture) 22 dX8_hookY_19 rfl lk8_118 m8_ofPicture_V ob121 (c8_ofPicture (w := 2) hj (by decide)) rfl rfl (by decide) (Nat.le_of_ble_eq_true rfl) ?_
  refine ac_imul 23 dX8_hookY_22 rfl ?_
  refine ac_isub 24 dX8_hookY_23 rfl ?_
  refine ac_iret dX8_hookY_24 ⟨_, rfl, rfl⟩ ?_
  exact rv_mk rfl
set_option maxRecDepth 20000 in
theorem c8_hangsNow {M : am_I} {V : am_J} {f : Nat → Option Nat} {j : Nat} (hj : j < 5) : CT m8_hangsNow 1 [Value.ref 121, Value.int (nI j)] M V f (RV (bi (M 122 (64 + j) ≠ -9)) M V f) := by
  refine CT.of m8_hangsNow_V.1 _ (en_ai_2 121 (nI j)) ?_
  refine ac_aload_n 1 dX8_hangsNow_0 rfl rfl ?_
  refine ac_getO 4 122 dX8_hangsNow_1 rfl fl8_7 ob121 rfl ?_
  refine ac_bipush 6 64 dX8_hangsNow_4 rfl (by decide) ?_
  refine ac_iload_n 7 dX8_hangsNow_6 rfl rfl ?_
  refine ac_iadd 8 dX8_hangsNow_7 rfl ?_
  refine ac_iald 9 dX8_hangsNow_8 rfl ar122 (ix_of (k := (64 + (j))) (by simp only [show (64 : Int32) = nI 64 from rfl, pk_mul, nI_add]) (by omega) (by decide)) ?_
  refine ac_bipush 11 (-9) dX8_hangsNow_9 rfl (by decide) ?_
  refine ac_icmp_eq 18 14 dX8_hangsNow_11 (by decide) rfl (fun c_11 => ?_) (fun c_11 => ?_)
  · refine ac_iconst 19 0 dX8_hangsNow_18 rfl (by decide) ?_
    refine ac_iret dX8_hangsNow_19 ⟨_, rfl, rfl⟩ ?_
    exact rv_mk (bi_f (by simp_all)).symm
  · refine ac_iconst 15 1 dX8_hangsNow_14 rfl (by decide) ?_
    refine ac_goto 19 dX8_hangsNow_15 (by decide) ?_
    refine ac_iret dX8_hangsNow_19 ⟨_, rfl, rfl⟩ ?_
    exact rv_mk (bi_t (by simp_all)).symm
set_option maxRecDepth 20000 in
theorem c8_isHole {M : am_I} {V : am_J} {f : Nat → Option Nat} (k : Int32) : CT m8_isHole 2 [Value.ref 121, Value.int k] M V f (RV (bi (0 ≤ k ∧ k ≤ M 122 31 - 1)) M V f) := by
  refine CT.of m8_isHole_V.1 _ (en_ai_2 121 k) ?_
  refine ac_iload_n 1 dX8_isHole_0 rfl rfl ?_
  refine ac_iconst 2 0 dX8_isHole_1 rfl (by decide) ?_
  refine ac_aload_n 3 dX8_isHole_2 rfl rfl ?_
  refine ac_getO 6 122 dX8_isHole_3 rfl fl8_7 ob121 rfl ?_
  refine ac_bipush 8 31 dX8_isHole_6 rfl (by decide) ?_
  refine ac_iald 9 dX8_isHole_8 rfl ar122 (ix_nI (k := 31) (by decide) (by decide)) ?_
  refine ac_iconst 10 1 dX8_isHole_9 rfl (by decide) ?_
  refine ac_isub 11 dX8_isHole_10 rfl ?_
  refine ac_callS (μ' := m8_within) 14 dX8_isHole_11 rfl lk8_67 m8_within_S (c8_within _ _ _) rfl rfl (by decide) (Nat.le_of_ble_eq_true rfl) ?_
  refine ac_iret dX8_isHole_14 (bi_nr rfl _) ?_
  exact rv_mk rfl
set_option maxRecDepth 20000 in
theorem c8_off {M : am_I} {V : am_J} {f : Nat → Option Nat} (x : Int32) : CT m8_off 1 [Value.int x] M V f (RV (if x < 0 then -x else x) M V f) := by
  refine CT.of m8_off_S.1 _ (en_i_1 x) ?_
  refine ac_iload_n 1 dX8_off_0 rfl rfl ?_
  refine ac_if_ge 9 4 dX8_off_1 (by decide) rfl (fun c_1 => ?_) (fun c_1 => ?_)
  · refine ac_iload_n 10 dX8_off_9 rfl rfl ?_
    refine ac_iret dX8_off_10 ⟨_, rfl, rfl⟩ ?_
    exact rv_mk (if_neg (by simp only [Int32.le_iff_toInt_le, Int32.lt_iff_toInt_lt] at *; omega)).symm
  · refine ac_iload_n 5 dX8_off_4 rfl rfl ?_
    refine ac_ineg 6 dX8_off_5 rfl ?_
    refine ac_goto 10 dX8_off_6 (by decide) ?_
    refine ac_iret dX8_off_10 ⟨_, rfl, rfl⟩ ?_
    exact rv_mk (if_pos (by simp only [Int32.le_iff_toInt_le, Int32.lt_iff_toInt_lt] at *; omega)).symm
set_option maxRecDepth 20000 in
theorem c8_leanOf {M : am_I} {V : am_J} {f : Nat → Option Nat} {j : Nat} (hj : j < 5) (x : Int32) : CT m8_leanOf 3 [Value.ref 121, Value.int (nI j), Value.int x] M V f (RV (M 122 (4 + 4 * j + 3) * (2 * x + M 122 (4 + 4 * j) - M 122 0)) M V f) := by
  refine CT.of m8_leanOf_V.1 _ (en_aii_3 121 (nI j) x) ?_
  refine ac_aload_n 1 dX8_leanOf_0 rfl rfl ?_
  refine ac_iload_n 2 dX8_leanOf_1 rfl rfl ?_
  refine ac_iconst 3 3 dX8_leanOf_2 rfl (by decide) ?_
  refine ac_callV (μ' := m8_ofPicture) 6 dX8_leanOf_3 rfl lk8_118 m8_ofPicture_V ob121 (c8_ofPicture (w := 3) hj (by decide)) rfl rfl (by decide) (Nat.le_of_ble_eq_true rfl) ?_
  refine ac_aload_n 7 dX8_leanOf_6 rfl rfl ?_
  refine ac_iload_n 8 dX8_leanOf_7 rfl rfl ?_
  refine ac_iload_n 9 dX8_leanOf_8 rfl rfl ?_
  refine ac_callV (μ' := m8_hookX) 12 dX8_leanOf_9 rfl lk8_126 m8_hookX_V ob121 (c8_hookX hj _) rfl rfl (by decide) (Nat.le_of_ble_eq_true rfl) ?_
  refine ac_aload_n 13 dX8_leanOf_12 rfl rfl ?_
  refine ac_getO 16 122 dX8_leanOf_13 rfl fl8_7 ob121 rfl ?_
  refine ac_iconst 17 0 dX8_leanOf_16 rfl (by decide) ?_
  refine ac_iald 18 dX8_leanOf_17 rfl ar122 (ix_nI (k := 0) (by decide) (by decide)) ?_
  refine ac_isub 19 dX8_leanOf_18 rfl ?_
  refine ac_imul 20 dX8_leanOf_19 rfl ?_
  refine ac_iret dX8_leanOf_20 ⟨_, rfl, rfl⟩ ?_
  exact rv_mk rfl
end
section
/-! The reference: what it asks of the wall, loop by loop (N is its row of numbers). -/
abbrev rN : Type := Nat → Int32
/-- how many pictures, doors, holes -/
def NC (N : rN) (np nd nh : Nat) : Prop := N 3 = nI np ∧ np ≤ 5 ∧ N 24 = nI nd ∧ nd ≤ 3 ∧ N 31 = nI nh ∧ nh ≤ 16
def fitN (N : rN) (nd j : Nat) (x : Int32) : Prop := (0 ≤ x ∧ x + N (4 + 4 * j) ≤ N 0) ∧ ∀ k, k < nd → (x + N (4 + 4 * j) ≤ N (25 + 2 * k) ∨ N (25 + 2 * k + 1) ≤ x)
def apN (N : rN) (np j : Nat) (x : Int32) : Prop := ∀ q, q < np → (N (64 + q) = -9 ∨ x + N (4 + 4 * j) + N 2 ≤ N (64 + q) ∨ N (64 + q) + N (4 + 4 * q) + N 2 ≤ x)
def hoN (N : rN) (nh : Nat) (X Y : Int32) : Prop := ∃ k, k < nh ∧ N (32 + 2 * k) = X ∧ N (32 + 2 * k + 1) = Y
def hkX (N : rN) (j : Nat) (x : Int32) : Int32 := 2 * x + N (4 + 4 * j)
def hkY (N : rN) (j : Nat) : Int32 := 2 * N 1 + N (4 + 4 * j + 1) - 2 * N (4 + 4 * j + 2)
def leN (N : rN) (j : Nat) (x : Int32) : Int32 := N (4 + 4 * j + 3) * (hkX N j x - N 0)
/-- the moment of the first k that hang; how many of the first k hang -/
def moN (N : rN) : Nat → Int32
  | 0 => 0
  | k + 1 => moN N k + (if N (64 + k) = -9 then 0 else leN N k (N (64 + k)))
def upN (N : rN) : Nat → Int32
  | 0 => 0
  | k + 1 => upN N k + (if N (64 + k) = -9 then 0 else 1)
/-- the last k below n with p; none: -9 -/
noncomputable def laN (p : Nat → Prop) : Nat → Int32
  | 0 => -9
  | k + 1 => @ite Int32 (p k) (Classical.propDecidable _) (nI k) (laN p k)
theorem laN_t {p : Nat → Prop} {k : Nat} (h : p k) : laN p (k + 1) = nI k := if_pos h
theorem laN_f {p : Nat → Prop} {k : Nat} (h : ¬ p k) : laN p (k + 1) = laN p k := if_neg h
def onN (N : rN) (k p : Nat) : Prop := N (64 + p) ≠ -9 ∧ hkX N p (N (64 + p)) = N (32 + 2 * k) ∧ hkY N p = N (32 + 2 * k + 1)
theorem all_suc {p : Nat → Prop} {k : Nat} : (∀ i, i < k + 1 → p i) ↔ (∀ i, i < k → p i) ∧ p k := ⟨fun h => ⟨fun i hi => h i (by omega), h k (by omega)⟩, fun h i hi => by
  rcases Nat.lt_or_ge i k with q | q
  · exact h.1 i q
  · have : i = k := by omega
    subst this; exact h.2⟩
theorem ex_suc {p : Nat → Prop} {k : Nat} : (∃ i, i < k + 1 ∧ p i) ↔ (∃ i, i < k ∧ p i) ∨ p k := ⟨fun ⟨i, hi, h⟩ => by
  rcases Nat.lt_or_ge i k with q | q
  · exact Or.inl ⟨i, q, h⟩
  · have : i = k := by omega
    subst this; exact Or.inr h, fun h => h.elim (fun ⟨i, hi, h⟩ => ⟨i, by omega, h⟩) (fun h => ⟨k, by omega, h⟩)⟩
set_option maxRecDepth 20000 in
theorem c8_doesFit {M : am_I} {V : am_J} {f : Nat → Option Nat} {np nd nh j : Nat} (hn : NC (M 122) np nd nh) (hj : j < 5) (x : Int32) : CT m8_doesFit 2 [Value.ref 121, Value.int (nI j), Value.int x] M V f (RV (bi (fitN (M 122) nd j x)) M V f) := by
  have hnd := hn.2.2.2.1
  unfold fitN
  refine CT.of m8_doesFit_V.1 _ (en_aii_6 121 (nI j) x) ?_
  refine ac_iload_n 1 dX8_doesFit_0 rfl rfl ?_
  refine ac_aload_n 2 dX8_doesFit_1 rfl rfl ?_
  refine ac_iload_n 3 dX8_doesFit_2 rfl rfl ?_
  refine ac_iconst 4 0 dX8_doesFit_3 rfl (by decide) ?_
  refine ac_callV (μ' := m8_ofPicture) 7 dX8_doesFit_4 rfl lk8_118 m8_ofPicture_V ob121 (c8_ofPicture (w := 0) hj (by decide)) rfl rfl (by decide) (Nat.le_of_ble_eq_true rfl) ?_
  refine ac_iadd 8 dX8_doesFit_7 rfl ?_
  refine ac_istore_n 9 [some (Value.ref 121), some (Value.int (nI j)), some (Value.int x), some (Value.int (x + (M 122 (4 + 4 * (j))))), none, none] dX8_doesFit_8 rfl rfl (Nat.le_of_ble_eq_true rfl) (by decide) rfl ?_
  have hL : A0 m8_doesFit 2 33 [some (Value.ref 121), some (Value.int (nI j)), some (Value.int x), some (Value.int (x + (M 122 (4 + 4 * (j))))), some (Value.int (bi ((0 ≤ x ∧ x + M 122 (4 + 4 * j) ≤ M 122 0) ∧ ∀ i, i < 0 → (x + M 122 (4 + 4 * j) ≤ M 122 (25 + 2 * i) ∨ M 122 (25 + 2 * i + 1) ≤ x)))), some (Value.int (nI 0))] [] M V f (RV (bi (fitN (M 122) nd j x)) M V f) := by
    refine ac_down (n := nd) (P := fun k => A0 m8_doesFit 2 33 [some (Value.ref 121), some (Value.int (nI j)), some (Value.int x), some (Value.int (x + (M 122 (4 + 4 * (j))))), some (Value.int (bi ((0 ≤ x ∧ x + M 122 (4 + 4 * j) ≤ M 122 0) ∧ ∀ i, i < k → (x + M 122 (4 + 4 * j) ≤ M 122 (25 + 2 * i) ∨ M 122 (25 + 2 * i + 1) ≤ x)))), some (Value.int (nI k))] [] M V f (RV (bi (fitN (M 122) nd j x)) M V f)) ?_ ?_ 0 (Nat.zero_le _) 
    · refine ac_iload 35 dX8_doesFit_33 rfl rfl ?_
      refine ac_aload_n 36 dX8_doesFit_35 rfl rfl ?_
      refine ac_getO 39 122 dX8_doesFit_36 rfl fl8_7 ob121 rfl ?_
      refine ac_bipush 41 24 dX8_doesFit_39 rfl (by decide) ?_
      refine ac_iald 42 dX8_doesFit_41 rfl ar122 (ix_nI (k := 24) (by decide) (by decide)) ?_
      refine ac_icmp_ge 97 45 dX8_doesFit_42 (by decide) rfl (fun _ => ?_) (fun c_42 => absurd (by rw [hn.2.2.1]; exact Int32.le_refl _) c_42)
      refine ac_iload 99 dX8_doesFit_97 rfl rfl ?_
      refine ac_iret dX8_doesFit_99 (bi_nr rfl _) ?_
      exact rv_mk rfl
    · intro k hk ih
      refine ac_iload 35 dX8_doesFit_33 rfl rfl ?_
      refine ac_aload_n 36 dX8_doesFit_35 rfl rfl ?_
      refine ac_getO 39 122 dX8_doesFit_36 rfl fl8_7 ob121 rfl ?_
      refine ac_bipush 41 24 dX8_doesFit_39 rfl (by decide) ?_
      refine ac_iald 42 dX8_doesFit_41 rfl ar122 (ix_nI (k := 24) (by decide) (by decide)) ?_
      refine ac_icmp_ge 97 45 dX8_doesFit_42 (by decide) rfl (fun c_42 => absurd c_42 (by rw [hn.2.2.1]; exact nI_ge hk (by omega))) (fun _ => ?_)
      refine ac_iload 47 dX8_doesFit_45 rfl rfl ?_
      refine ac_if_eq 88 50 dX8_doesFit_47 (by decide) rfl (fun c_47 => ?_) (fun c_47 => ?_)
      · have hb := bi_eq0.mp c_47
        refine ac_iconst 89 0 dX8_doesFit_88 rfl (by decide) ?_
        refine ac_istore 91 [some (Value.ref 121), some (Value.int (nI j)), some (Value.int x), some (Value.int (x + (M 122 (4 + 4 * (j))))), some (Value.int 0), some (Value.int (nI k))] dX8_doesFit_89 rfl rfl (Nat.le_of_ble_eq_true rfl) (by decide) rfl ?_
        refine ac_iinc 94 (nI (k + 1)) [some (Value.ref 121), some (Value.int (nI j)), some (Value.int x), some (Value.int (x + (M 122 (4 + 4 * (j))))), some (Value.int 0), some (Value.int (nI (k + 1)))] dX8_doesFit_91 rfl rfl (nI_1 _) rfl (by decide) rfl ?_
        refine ac_goto 33 dX8_doesFit_94 (by decide) ?_
        rw [show bi ((0 ≤ x ∧ x + M 122 (4 + 4 * j) ≤ M 122 0) ∧ ∀ i, i < (k + 1) → (x + M 122 (4 + 4 * j) ≤ M 122 (25 + 2 * i) ∨ M 122 (25 + 2 * i + 1) ≤ x)) = 0 from (bi_f (by first | exact fun h => hb ⟨h.1, (all_suc.mp h.2).1⟩ | exact fun h => ((all_suc.mp h.2).2).elim c_63 (fun h2 => absurd c_81 (Int32.not_lt.mpr h2))))] at ih
        exact ih
      · have hb := bi_ne0.mp c_47
        refine ac_iload_n 51 dX8_doesFit_50 rfl rfl ?_
        refine ac_aload_n 52 dX8_doesFit_51 rfl rfl ?_
        refine ac_getO 55 122 dX8_doesFit_52 rfl fl8_7 ob121 rfl ?_
        refine ac_bipush 57 25 dX8_doesFit_55 rfl (by decide) ?_
        refine ac_iconst 58 2 dX8_doesFit_57 rfl (by decide) ?_
        refine ac_iload 60 dX8_doesFit_58 rfl rfl ?_
        refine ac_imul 61 dX8_doesFit_60 rfl ?_
        refine ac_iadd 62 dX8_doesFit_61 rfl ?_
        refine ac_iald 63 dX8_doesFit_62 rfl ar122 (ix_of (k := (25 + (2 * (k)))) (by simp only [show (2 : Int32) = nI 2 from rfl, show (25 : Int32) = nI 25 from rfl, pk_mul, nI_add]) (by omega) (by decide)) ?_
        refine ac_icmp_le 84 66 dX8_doesFit_63 (by decide) rfl (fun c_63 => ?_) (fun c_63 => ?_)
        · refine ac_iconst 85 1 dX8_doesFit_84 rfl (by decide) ?_
          refine ac_goto 89 dX8_doesFit_85 (by decide) ?_
          refine ac_istore 91 [some (Value.ref 121), some (Value.int (nI j)), some (Value.int x), some (Value.int (x + (M 122 (4 + 4 * (j))))), some (Value.int 1), some (Value.int (nI k))] dX8_doesFit_89 rfl rfl (Nat.le_of_ble_eq_true rfl) (by decide) rfl ?_
          refine ac_iinc 94 (nI (k + 1)) [some (Value.ref 121), some (Value.int (nI j)), some (Value.int x), some (Value.int (x + (M 122 (4 + 4 * (j))))), some (Value.int 1), some (Value.int (nI (k + 1)))] dX8_doesFit_91 rfl rfl (nI_1 _) rfl (by decide) rfl ?_
          refine ac_goto 33 dX8_doesFit_94 (by decide) ?_
          rw [show bi ((0 ≤ x ∧ x + M 122 (4 + 4 * j) ≤ M 122 0) ∧ ∀ i, i < (k + 1) → (x + M 122 (4 + 4 * j) ≤ M 122 (25 + 2 * i) ∨ M 122 (25 + 2 * i + 1) ≤ x)) = 1 from (bi_t (by first | exact ⟨hb.1, all_suc.mpr ⟨hb.2, Or.inl c_63⟩⟩ | exact ⟨hb.1, all_suc.mpr ⟨hb.2, Or.inr (Int32.not_lt.mp c_81)⟩⟩))] at ih
          exact ih
        · refine ac_iload_n 67 dX8_doesFit_66 rfl rfl ?_
          refine ac_aload_n 68 dX8_doesFit_67 rfl rfl ?_
          refine ac_getO 71 122 dX8_doesFit_68 rfl fl8_7 ob121 rfl ?_
          refine ac_bipush 73 25 dX8_doesFit_71 rfl (by decide) ?_
          refine ac_iconst 74 2 dX8_doesFit_73 rfl (by decide) ?_
          refine ac_iload 76 dX8_doesFit_74 rfl rfl ?_
          refine ac_imul 77 dX8_doesFit_76 rfl ?_
          refine ac_iadd 78 dX8_doesFit_77 rfl ?_
          refine ac_iconst 79 1 dX8_doesFit_78 rfl (by decide) ?_
          refine ac_iadd 80 dX8_doesFit_79 rfl ?_
          refine ac_iald 81 dX8_doesFit_80 rfl ar122 (ix_of (k := ((25 + (2 * (k))) + 1)) (by simp only [show (1 : Int32) = nI 1 from rfl, show (2 : Int32) = nI 2 from rfl, show (25 : Int32) = nI 25 from rfl, pk_mul, nI_add]) (by omega) (by decide)) ?_
          refine ac_icmp_lt 88 84 dX8_doesFit_81 (by decide) rfl (fun c_81 => ?_) (fun c_81 => ?_)
          · refine ac_iconst 89 0 dX8_doesFit_88 rfl (by decide) ?_
            refine ac_istore 91 [some (Value.ref 121), some (Value.int (nI j)), some (Value.int x), some (Value.int (x + (M 122 (4 + 4 * (j))))), some (Value.int 0), some (Value.int (nI k))] dX8_doesFit_89 rfl rfl (Nat.le_of_ble_eq_true rfl) (by decide) rfl ?_
            refine ac_iinc 94 (nI (k + 1)) [some (Value.ref 121), some (Value.int (nI j)), some (Value.int x), some (Value.int (x + (M 122 (4 + 4 * (j))))), some (Value.int 0), some (Value.int (nI (k + 1)))] dX8_doesFit_91 rfl rfl (nI_1 _) rfl (by decide) rfl ?_
            refine ac_goto 33 dX8_doesFit_94 (by decide) ?_
            rw [show bi ((0 ≤ x ∧ x + M 122 (4 + 4 * j) ≤ M 122 0) ∧ ∀ i, i < (k + 1) → (x + M 122 (4 + 4 * j) ≤ M 122 (25 + 2 * i) ∨ M 122 (25 + 2 * i + 1) ≤ x)) = 0 from (bi_f (by first | exact fun h => hb ⟨h.1, (all_suc.mp h.2).1⟩ | exact fun h => ((all_suc.mp h.2).2).elim c_63 (fun h2 => absurd c_81 (Int32.not_lt.mpr h2))))] at ih
            exact ih
          · refine ac_iconst 85 1 dX8_doesFit_84 rfl (by decide) ?_
            refine ac_goto 89 dX8_doesFit_85 (by decide) ?_
            refine ac_istore 91 [some (Value.ref 121), some (Value.int (nI j)), some (Value.int x), some (Value.int (x + (M 122 (4 + 4 * (j))))), some (Value.int 1), some (Value.int (nI k))] dX8_doesFit_89 rfl rfl (Nat.le_of_ble_eq_true rfl) (by decide) rfl ?_
            refine ac_iinc 94 (nI (k + 1)) [some (Value.ref 121), some (Value.int (nI j)), some (Value.int x), some (Value.int (x + (M 122 (4 + 4 * (j))))), some (Value.int 1), some (Value.int (nI (k + 1)))] dX8_doesFit_91 rfl rfl (nI_1 _) rfl (by decide) rfl ?_
            refine ac_goto 33 dX8_doesFit_94 (by decide) ?_
            rw [show bi ((0 ≤ x ∧ x + M 122 (4 + 4 * j) ≤ M 122 0) ∧ ∀ i, i < (k + 1) → (x + M 122 (4 + 4 * j) ≤ M 122 (25 + 2 * i) ∨ M 122 (25 + 2 * i + 1) ≤ x)) = 1 from (bi_t (by first | exact ⟨hb.1, all_suc.mpr ⟨hb.2, Or.inl c_63⟩⟩ | exact ⟨hb.1, all_suc.mpr ⟨hb.2, Or.inr (Int32.not_lt.mp c_81)⟩⟩))] at ih
            exact ih
  refine ac_iload_n 10 dX8_doesFit_9 rfl rfl ?_
  refine ac_if_lt 27 13 dX8_doesFit_10 (by decide) rfl (fun c_10 => ?_) (fun c_10 => ?_)
  · refine ac_iconst 28 0 dX8_doesFit_27 rfl (by decide) ?_
    refine ac_istore 30 [some (Value.ref 121), some (Value.int (nI j)), some (Value.int x), some (Value.int (x + (M 122 (4 + 4 * (j))))), some (Value.int 0), none] dX8_doesFit_28 rfl rfl (Nat.le_of_ble_eq_true rfl) (by decide) rfl ?_
    refine ac_iconst 31 0 dX8_doesFit_30 rfl (by decide) ?_
    refine ac_istore 33 [some (Value.ref 121), some (Value.int (nI j)), some (Value.int x), some (Value.int (x + (M 122 (4 + 4 * (j))))), some (Value.int 0), some (Value.int 0)] dX8_doesFit_31 rfl rfl (Nat.le_of_ble_eq_true rfl) (by decide) rfl ?_
    rw [show bi ((0 ≤ x ∧ x + M 122 (4 + 4 * j) ≤ M 122 0) ∧ ∀ i, i < 0 → (x + M 122 (4 + 4 * j) ≤ M 122 (25 + 2 * i) ∨ M 122 (25 + 2 * i + 1) ≤ x)) = 0 from (bi_f (by first | exact fun h => absurd c_10 (Int32.not_lt.mpr h.1.1) | exact fun h => absurd c_20 (Int32.not_lt.mpr h.1.2)))] at hL
    exact hL
  · refine ac_iload_n 14 dX8_doesFit_13 rfl rfl ?_
    refine ac_aload_n 15 dX8_doesFit_14 rfl rfl ?_
    refine ac_getO 18 122 dX8_doesFit_15 rfl fl8_7 ob121 rfl ?_
    refine ac_iconst 19 0 dX8_doesFit_18 rfl (by decide) ?_
    refine ac_iald 20 dX8_doesFit_19 rfl ar122 (ix_nI (k := 0) (by decide) (by decide)) ?_
    refine ac_icmp_gt 27 23 dX8_doesFit_20 (by decide) rfl (fun c_20 => ?_) (fun c_20 => ?_)
    · refine ac_iconst 28 0 dX8_doesFit_27 rfl (by decide) ?_
      refine ac_istore 30 [some (Value.ref 121), some (Value.int (nI j)), some (Value.int x), some (Value.int (x + (M 122 (4 + 4 * (j))))), some (Value.int 0), none] dX8_doesFit_28 rfl rfl (Nat.le_of_ble_eq_true rfl) (by decide) rfl ?_
      refine ac_iconst 31 0 dX8_doesFit_30 rfl (by decide) ?_
      refine ac_istore 33 [some (Value.ref 121), some (Value.int (nI j)), some (Value.int x), some (Value.int (x + (M 122 (4 + 4 * (j))))), some (Value.int 0), some (Value.int 0)] dX8_doesFit_31 rfl rfl (Nat.le_of_ble_eq_true rfl) (by decide) rfl ?_
      rw [show bi ((0 ≤ x ∧ x + M 122 (4 + 4 * j) ≤ M 122 0) ∧ ∀ i, i < 0 → (x + M 122 (4 + 4 * j) ≤ M 122 (25 + 2 * i) ∨ M 122 (25 + 2 * i + 1) ≤ x)) = 0 from (bi_f (by first | exact fun h => absurd c_10 (Int32.not_lt.mpr h.1.1) | exact fun h => absurd c_20 (Int32.not_lt.mpr h.1.2)))] at hL
      exact hL
    · refine ac_iconst 24 1 dX8_doesFit_23 rfl (by decide) ?_
      refine ac_goto 28 dX8_doesFit_24 (by decide) ?_
      refine ac_istore 30 [some (Value.ref 121), some (Value.int (nI j)), some (Value.int x), some (Value.int (x + (M 122 (4 + 4 * (j))))), some (Value.int 1), none] dX8_doesFit_28 rfl rfl (Nat.le_of_ble_eq_true rfl) (by decide) rfl ?_
      refine ac_iconst 31 0 dX8_doesFit_30 rfl (by decide) ?_
      refine ac_istore 33 [some (Value.ref 121), some (Value.int (nI j)), some (Value.int x), some (Value.int (x + (M 122 (4 + 4 * (j))))), some (Value.int 1), some (Value.int 0)] dX8_doesFit_31 rfl rfl (Nat.le_of_ble_eq_true rfl) (by decide) rfl ?_
      rw [show bi ((0 ≤ x ∧ x + M 122 (4 + 4 * j) ≤ M 122 0) ∧ ∀ i, i < 0 → (x + M 122 (4 + 4 * j) ≤ M 122 (25 + 2 * i) ∨ M 122 (25 + 2 * i + 1) ≤ x)) = 1 from bi_t ⟨⟨Int32.not_lt.mp c_10, Int32.not_lt.mp c_20⟩, fun i hi => absurd hi (Nat.not_lt_zero i)⟩] at hL
      exact hL
set_option maxRecDepth 20000 in
theorem c8_isApart {M : am_I} {V : am_J} {f : Nat → Option Nat} {np nd nh j : Nat} (hn : NC (M 122) np nd nh) (hj : j < 5) (x : Int32) : CT m8_isApart 2 [Value.ref 121, Value.int (nI j), Value.int x] M V f (RV (bi (apN (M 122) np j x)) M V f) := by
  have hnp := hn.2.1
  unfold apN
  refine CT.of m8_isApart_V.1 _ (en_aii_8 121 (nI j) x) ?_
  refine ac_iconst 1 1 dX8_isApart_0 rfl (by decide) ?_
  refine ac_istore_n 2 [some (Value.ref 121), some (Value.int (nI j)), some (Value.int x), some (Value.int 1), none, none, none, none] dX8_isApart_1 rfl rfl (Nat.le_of_ble_eq_true rfl) (by decide) rfl ?_
  have hL : A0 m8_isApart 2 5 [some (Value.ref 121), some (Value.int (nI j)), some (Value.int x), some (Value.int (bi (∀ q, q < 0 → (M 122 (64 + q) = -9 ∨ x + M 122 (4 + 4 * j) + M 122 2 ≤ M 122 (64 + q) ∨ M 122 (64 + q) + M 122 (4 + 4 * q) + M 122 2 ≤ x)))), some (Value.int (nI 0)), none, none, none] [] M V f (RV (bi (apN (M 122) np j x)) M V f) := by
    refine ac_down (n := np) (P := fun k => A0 m8_isApart 2 5 [some (Value.ref 121), some (Value.int (nI j)), some (Value.int x), some (Value.int (bi (∀ q, q < k → (M 122 (64 + q) = -9 ∨ x + M 122 (4 + 4 * j) + M 122 2 ≤ M 122 (64 + q) ∨ M 122 (64 + q) + M 122 (4 + 4 * q) + M 122 2 ≤ x)))), some (Value.int (nI k)), none, none, none] [] M V f (RV (bi (apN (M 122) np j x)) M V f)) ?_ ?_ 0 (Nat.zero_le _) 
    · refine ac_iload 7 dX8_isApart_5 rfl rfl ?_
      refine ac_aload_n 8 dX8_isApart_7 rfl rfl ?_
      refine ac_getO 11 122 dX8_isApart_8 rfl fl8_7 ob121 rfl ?_
      refine ac_iconst 12 3 dX8_isApart_11 rfl (by decide) ?_
      refine ac_iald 13 dX8_isApart_12 rfl ar122 (ix_nI (k := 3) (by decide) (by decide)) ?_
      refine ac_icmp_ge 118 16 dX8_isApart_13 (by decide) rfl (fun _ => ?_) (fun c_13 => absurd (by rw [hn.1]; exact Int32.le_refl _) c_13)
      refine ac_iload_n 119 dX8_isApart_118 rfl rfl ?_
      refine ac_iret dX8_isApart_119 (bi_nr rfl _) ?_
      exact rv_mk rfl
    · intro k hk ih
      refine ac_iload 7 dX8_isApart_5 rfl rfl ?_
      refine ac_aload_n 8 dX8_isApart_7 rfl rfl ?_
      refine ac_getO 11 122 dX8_isApart_8 rfl fl8_7 ob121 rfl ?_
      refine ac_iconst 12 3 dX8_isApart_11 rfl (by decide) ?_
      refine ac_iald 13 dX8_isApart_12 rfl ar122 (ix_nI (k := 3) (by decide) (by decide)) ?_
      refine ac_icmp_ge 118 16 dX8_isApart_13 (by decide) rfl (fun c_13 => absurd c_13 (by rw [hn.1]; exact nI_ge hk (by omega))) (fun _ => ?_)
      refine ac_aload_n 17 dX8_isApart_16 rfl rfl ?_
      refine ac_getO 20 122 dX8_isApart_17 rfl fl8_7 ob121 rfl ?_
      refine ac_bipush 22 64 dX8_isApart_20 rfl (by decide) ?_
      refine ac_iload 24 dX8_isApart_22 rfl rfl ?_
      refine ac_iadd 25 dX8_isApart_24 rfl ?_
      refine ac_iald 26 dX8_isApart_25 rfl ar122 (ix_of (k := (64 + (k))) (by simp only [show (64 : Int32) = nI 64 from rfl, pk_mul, nI_add]) (by omega) (by decide)) ?_
      refine ac_istore 28 [some (Value.ref 121), some (Value.int (nI j)), some (Value.int x), some (Value.int (bi (∀ q, q < k → (M 122 (64 + q) = -9 ∨ x + M 122 (4 + 4 * j) + M 122 2 ≤ M 122 (64 + q) ∨ M 122 (64 + q) + M 122 (4 + 4 * q) + M 122 2 ≤ x)))), some (Value.int (nI k)), some (Value.int (M 122 (64 + (k)))), none, none] dX8_isApart_26 rfl rfl (Nat.le_of_ble_eq_true rfl) (by decide) rfl ?_
      refine ac_iload_n 29 dX8_isApart_28 rfl rfl ?_
      refine ac_aload_n 30 dX8_isApart_29 rfl rfl ?_
      refine ac_iload_n 31 dX8_isApart_30 rfl rfl ?_
      refine ac_iconst 32 0 dX8_isApart_31 rfl (by decide) ?_
      refine ac_callV (μ' := m8_ofPicture) 35 dX8_isApart_32 rfl lk8_118 m8_ofPicture_V ob121 (c8_ofPicture (w := 0) hj (by decide)) rfl rfl (by decide) (Nat.le_of_ble_eq_true rfl) ?_
      refine ac_iadd 36 dX8_isApart_35 rfl ?_
      refine ac_aload_n 37 dX8_isApart_36 rfl rfl ?_
      refine ac_getO 40 122 dX8_isApart_37 rfl fl8_7 ob121 rfl ?_
      refine ac_iconst 41 2 dX8_isApart_40 rfl (by decide) ?_
      refine ac_iald 42 dX8_isApart_41 rfl ar122 (ix_nI (k := 2) (by decide) (by decide)) ?_
      refine ac_iadd 43 dX8_isApart_42 rfl ?_
      refine ac_iload 45 dX8_isApart_43 rfl rfl ?_
      refine ac_icmp_gt 52 48 dX8_isApart_45 (by decide) rfl (fun c_45 => ?_) (fun c_45 => ?_)
      · refine ac_iconst 53 0 dX8_isApart_52 rfl (by decide) ?_
        refine ac_istore 55 [some (Value.ref 121), some (Value.int (nI j)), some (Value.int x), some (Value.int (bi (∀ q, q < k → (M 122 (64 + q) = -9 ∨ x + M 122 (4 + 4 * j) + M 122 2 ≤ M 122 (64 + q) ∨ M 122 (64 + q) + M 122 (4 + 4 * q) + M 122 2 ≤ x)))), some (Value.int (nI k)), some (Value.int (M 122 (64 + (k)))), some (Value.int 0), none] dX8_isApart_53 rfl rfl (Nat.le_of_ble_eq_true rfl) (by decide) rfl ?_
        refine ac_iload 57 dX8_isApart_55 rfl rfl ?_
        refine ac_aload_n 58 dX8_isApart_57 rfl rfl ?_
        refine ac_iload 60 dX8_isApart_58 rfl rfl ?_
        refine ac_iconst 61 0 dX8_isApart_60 rfl (by decide) ?_
        refine ac_callV (μ' := m8_ofPicture) 64 dX8_isApart_61 rfl lk8_118 m8_ofPicture_V ob121 (c8_ofPicture (w := 0) (by omega) (by decide)) rfl rfl (by decide) (Nat.le_of_ble_eq_true rfl) ?_
        refine ac_iadd 65 dX8_isApart_64 rfl ?_
        refine ac_aload_n 66 dX8_isApart_65 rfl rfl ?_
        refine ac_getO 69 122 dX8_isApart_66 rfl fl8_7 ob121 rfl ?_
        refine ac_iconst 70 2 dX8_isApart_69 rfl (by decide) ?_
        refine ac_iald 71 dX8_isApart_70 rfl ar122 (ix_nI (k := 2) (by decide) (by decide)) ?_
        refine ac_iadd 72 dX8_isApart_71 rfl ?_
        refine ac_iload_n 73 dX8_isApart_72 rfl rfl ?_
        refine ac_icmp_gt 80 76 dX8_isApart_73 (by decide) rfl (fun c_73 => ?_) (fun c_73 => ?_)
        · refine ac_iconst 81 0 dX8_isApart_80 rfl (by decide) ?_
          refine ac_istore 83 [some (Value.ref 121), some (Value.int (nI j)), some (Value.int x), some (Value.int (bi (∀ q, q < k → (M 122 (64 + q) = -9 ∨ x + M 122 (4 + 4 * j) + M 122 2 ≤ M 122 (64 + q) ∨ M 122 (64 + q) + M 122 (4 + 4 * q) + M 122 2 ≤ x)))), some (Value.int (nI k)), some (Value.int (M 122 (64 + (k)))), some (Value.int 0), some (Value.int 0)] dX8_isApart_81 rfl rfl (Nat.le_of_ble_eq_true rfl) (by decide) rfl ?_
          refine ac_iload_n 84 dX8_isApart_83 rfl rfl ?_
          refine ac_if_eq 110 87 dX8_isApart_84 (by decide) rfl (fun c_84 => ?_) (fun c_84 => ?_)
          · have hb := bi_eq0.mp c_84
            refine ac_iconst 111 0 dX8_isApart_110 rfl (by decide) ?_
            refine ac_istore_n 112 [some (Value.ref 121), some (Value.int (nI j)), some (Value.int x), some (Value.int 0), some (Value.int (nI k)), some (Value.int (M 122 (64 + (k)))), some (Value.int 0), some (Value.int 0)] dX8_isApart_111 rfl rfl (Nat.le_of_ble_eq_true rfl) (by decide) rfl ?_
            refine ac_iinc 115 (nI (k + 1)) [some (Value.ref 121), some (Value.int (nI j)), some (Value.int x), some (Value.int 0), some (Value.int (nI (k + 1))), some (Value.int (M 122 (64 + (k)))), some (Value.int 0), some (Value.int 0)] dX8_isApart_112 rfl rfl (nI_1 _) rfl (by decide) rfl ?_
            refine ac_goto 5 dX8_isApart_115 (by decide) ?_
            refine ac_kill 5 [some (Value.ref 121), some (Value.int (nI j)), some (Value.int x), some (Value.int 0), some (Value.int (nI (k + 1))), none, some (Value.int 0), some (Value.int 0)] rfl ?_
            refine ac_kill 6 [some (Value.ref 121), some (Value.int (nI j)), some (Value.int x), some (Value.int 0), some (Value.int (nI (k + 1))), none, none, some (Value.int 0)] rfl ?_
            refine ac_kill 7 [some (Value.ref 121), some (Value.int (nI j)), some (Value.int x), some (Value.int 0), some (Value.int (nI (k + 1))), none, none, none] rfl ?_
            rw [show bi (∀ q, q < k + 1 → (M 122 (64 + q) = -9 ∨ x + M 122 (4 + 4 * j) + M 122 2 ≤ M 122 (64 + q) ∨ M 122 (64 + q) + M 122 (4 + 4 * q) + M 122 2 ≤ x)) = 0 from (bi_f (by first | exact fun h => hb (all_suc.mp h).1 | exact fun h => ((all_suc.mp h).2).elim hq (fun h2 => h2.elim (fun h3 => absurd c_45 (Int32.not_lt.mpr h3)) (fun h3 => absurd c_73 (Int32.not_lt.mpr h3)))))] at ih
            exact ih
          · have hb := bi_ne0.mp c_84
            refine ac_aload_n 88 dX8_isApart_87 rfl rfl ?_
            refine ac_iload 90 dX8_isApart_88 rfl rfl ?_
            refine ac_callV (μ' := m8_hangsNow) 93 dX8_isApart_90 rfl lk8_122 m8_hangsNow_V ob121 (c8_hangsNow (j := (k)) (by omega)) rfl rfl (by decide) (Nat.le_of_ble_eq_true rfl) ?_
            refine ac_if_eq 106 96 dX8_isApart_93 (by decide) rfl (fun c_93 => ?_) (fun c_93 => ?_)
            · have hq := bi_eq0.mp c_93
              refine ac_iconst 107 1 dX8_isApart_106 rfl (by decide) ?_
              refine ac_goto 111 dX8_isApart_107 (by decide) ?_
              refine ac_istore_n 112 [some (Value.ref 121), some (Value.int (nI j)), some (Value.int x), some (Value.int 1), some (Value.int (nI k)), some (Value.int (M 122 (64 + (k)))), some (Value.int 0), some (Value.int 0)] dX8_isApart_111 rfl rfl (Nat.le_of_ble_eq_true rfl) (by decide) rfl ?_
              refine ac_iinc 115 (nI (k + 1)) [some (Value.ref 121), some (Value.int (nI j)), some (Value.int x), some (Value.int 1), some (Value.int (nI (k + 1))), some (Value.int (M 122 (64 + (k)))), some (Value.int 0), some (Value.int 0)] dX8_isApart_112 rfl rfl (nI_1 _) rfl (by decide) rfl ?_
              refine ac_goto 5 dX8_isApart_115 (by decide) ?_
              refine ac_kill 5 [some (Value.ref 121), some (Value.int (nI j)), some (Value.int x), some (Value.int 1), some (Value.int (nI (k + 1))), none, some (Value.int 0), some (Value.int 0)] rfl ?_
              refine ac_kill 6 [some (Value.ref 121), some (Value.int (nI j)), some (Value.int x), some (Value.int 1), some (Value.int (nI (k + 1))), none, none, some (Value.int 0)] rfl ?_
              refine ac_kill 7 [some (Value.ref 121), some (Value.int (nI j)), some (Value.int x), some (Value.int 1), some (Value.int (nI (k + 1))), none, none, none] rfl ?_
              rw [show bi (∀ q, q < k + 1 → (M 122 (64 + q) = -9 ∨ x + M 122 (4 + 4 * j) + M 122 2 ≤ M 122 (64 + q) ∨ M 122 (64 + q) + M 122 (4 + 4 * q) + M 122 2 ≤ x)) = 1 from (bi_t (all_suc.mpr ⟨hb, by first | exact Or.inl (Classical.not_not.mp hq) | exact Or.inr (Or.inl (Int32.not_lt.mp c_45)) | exact Or.inr (Or.inr (Int32.not_lt.mp c_73))⟩))] at ih
              exact ih
            · have hq := bi_ne0.mp c_93
              refine ac_iload 98 dX8_isApart_96 rfl rfl ?_
              refine ac_if_ne 106 101 dX8_isApart_98 (by decide) rfl (fun c_98 => absurd (by decide) c_98) (fun _ => ?_)
              refine ac_iload 103 dX8_isApart_101 rfl rfl ?_
              refine ac_if_eq 110 106 dX8_isApart_103 (by decide) rfl (fun _ => ?_) (fun c_103 => absurd (by decide) c_103)
              refine ac_iconst 111 0 dX8_isApart_110 rfl (by decide) ?_
              refine ac_istore_n 112 [some (Value.ref 121), some (Value.int (nI j)), some (Value.int x), some (Value.int 0), some (Value.int (nI k)), some (Value.int (M 122 (64 + (k)))), some (Value.int 0), some (Value.int 0)] dX8_isApart_111 rfl rfl (Nat.le_of_ble_eq_true rfl) (by decide) rfl ?_
              refine ac_iinc 115 (nI (k + 1)) [some (Value.ref 121), some (Value.int (nI j)), some (Value.int x), some (Value.int 0), some (Value.int (nI (k + 1))), some (Value.int (M 122 (64 + (k)))), some (Value.int 0), some (Value.int 0)] dX8_isApart_112 rfl rfl (nI_1 _) rfl (by decide) rfl ?_
              refine ac_goto 5 dX8_isApart_115 (by decide) ?_
              refine ac_kill 5 [some (Value.ref 121), some (Value.int (nI j)), some (Value.int x), some (Value.int 0), some (Value.int (nI (k + 1))), none, some (Value.int 0), some (Value.int 0)] rfl ?_
              refine ac_kill 6 [some (Value.ref 121), some (Value.int (nI j)), some (Value.int x), some (Value.int 0), some (Value.int (nI (k + 1))), none, none, some (Value.int 0)] rfl ?_
              refine ac_kill 7 [some (Value.ref 121), some (Value.int (nI j)), some (Value.int x), some (Value.int 0), some (Value.int (nI (k + 1))), none, none, none] rfl ?_
              rw [show bi (∀ q, q < k + 1 → (M 122 (64 + q) = -9 ∨ x + M 122 (4 + 4 * j) + M 122 2 ≤ M 122 (64 + q) ∨ M 122 (64 + q) + M 122 (4 + 4 * q) + M 122 2 ≤ x)) = 0 from (bi_f (by first | exact fun h => hb (all_suc.mp h).1 | exact fun h => ((all_suc.mp h).2).elim hq (fun h2 => h2.elim (fun h3 => absurd c_45 (Int32.not_lt.mpr h3)) (fun h3 => absurd c_73 (Int32.not_lt.mpr h3)))))] at ih
              exact ih
        · refine ac_iconst 77 1 dX8_isApart_76 rfl (by decide) ?_
          refine ac_goto 81 dX8_isApart_77 (by decide) ?_
          refine ac_istore 83 [some (Value.ref 121), some (Value.int (nI j)), some (Value.int x), some (Value.int (bi (∀ q, q < k → (M 122 (64 + q) = -9 ∨ x + M 122 (4 + 4 * j) + M 122 2 ≤ M 122 (64 + q) ∨ M 122 (64 + q) + M 122 (4 + 4 * q) + M 122 2 ≤ x)))), some (Value.int (nI k)), some (Value.int (M 122 (64 + (k)))), some (Value.int 0), some (Value.int 1)] dX8_isApart_81 rfl rfl (Nat.le_of_ble_eq_true rfl) (by decide) rfl ?_
          refine ac_iload_n 84 dX8_isApart_83 rfl rfl ?_
          refine ac_if_eq 110 87 dX8_isApart_84 (by decide) rfl (fun c_84 => ?_) (fun c_84 => ?_)
          · have hb := bi_eq0.mp c_84
            refine ac_iconst 111 0 dX8_isApart_110 rfl (by decide) ?_
            refine ac_istore_n 112 [some (Value.ref 121), some (Value.int (nI j)), some (Value.int x), some (Value.int 0), some (Value.int (nI k)), some (Value.int (M 122 (64 + (k)))), some (Value.int 0), some (Value.int 1)] dX8_isApart_111 rfl rfl (Nat.le_of_ble_eq_true rfl) (by decide) rfl ?_
            refine ac_iinc 115 (nI (k + 1)) [some (Value.ref 121), some (Value.int (nI j)), some (Value.int x), some (Value.int 0), some (Value.int (nI (k + 1))), some (Value.int (M 122 (64 + (k)))), some (Value.int 0), some (Value.int 1)] dX8_isApart_112 rfl rfl (nI_1 _) rfl (by decide) rfl ?_
            refine ac_goto 5 dX8_isApart_115 (by decide) ?_
            refine ac_kill 5 [some (Value.ref 121), some (Value.int (nI j)), some (Value.int x), some (Value.int 0), some (Value.int (nI (k + 1))), none, some (Value.int 0), some (Value.int 1)] rfl ?_
            refine ac_kill 6 [some (Value.ref 121), some (Value.int (nI j)), some (Value.int x), some (Value.int 0), some (Value.int (nI (k + 1))), none, none, some (Value.int 1)] rfl ?_
            refine ac_kill 7 [some (Value.ref 121), some (Value.int (nI j)), some (Value.int x), some (Value.int 0), some (Value.int (nI (k + 1))), none, none, none] rfl ?_
            rw [show bi (∀ q, q < k + 1 → (M 122 (64 + q) = -9 ∨ x + M 122 (4 + 4 * j) + M 122 2 ≤ M 122 (64 + q) ∨ M 122 (64 + q) + M 122 (4 + 4 * q) + M 122 2 ≤ x)) = 0 from (bi_f (by first | exact fun h => hb (all_suc.mp h).1 | exact fun h => ((all_suc.mp h).2).elim hq (fun h2 => h2.elim (fun h3 => absurd c_45 (Int32.not_lt.mpr h3)) (fun h3 => absurd c_73 (Int32.not_lt.mpr h3)))))] at ih
            exact ih
          · have hb := bi_ne0.mp c_84
            refine ac_aload_n 88 dX8_isApart_87 rfl rfl ?_
            refine ac_iload 90 dX8_isApart_88 rfl rfl ?_
            refine ac_callV (μ' := m8_hangsNow) 93 dX8_isApart_90 rfl lk8_122 m8_hangsNow_V ob121 (c8_hangsNow (j := (k)) (by omega)) rfl rfl (by decide) (Nat.le_of_ble_eq_true rfl) ?_
            refine ac_if_eq 106 96 dX8_isApart_93 (by decide) rfl (fun c_93 => ?_) (fun c_93 => ?_)
            · have hq := bi_eq0.mp c_93
              refine ac_iconst 107 1 dX8_isApart_106 rfl (by decide) ?_
              refine ac_goto 111 dX8_isApart_107 (by decide) ?_
              refine ac_istore_n 112 [some (Value.ref 121), some (Value.int (nI j)), some (Value.int x), some (Value.int 1), some (Value.int (nI k)), some (Value.int (M 122 (64 + (k)))), some (Value.int 0), some (Value.int 1)] dX8_isApart_111 rfl rfl (Nat.le_of_ble_eq_true rfl) (by decide) rfl ?_
              refine ac_iinc 115 (nI (k + 1)) [some (Value.ref 121), some (Value.int (nI j)), some (Value.int x), some (Value.int 1), some (Value.int (nI (k + 1))), some (Value.int (M 122 (64 + (k)))), some (Value.int 0), some (Value.int 1)] dX8_isApart_112 rfl rfl (nI_1 _) rfl (by decide) rfl ?_
              refine ac_goto 5 dX8_isApart_115 (by decide) ?_
              refine ac_kill 5 [some (Value.ref 121), some (Value.int (nI j)), some (Value.int x), some (Value.int 1), some (Value.int (nI (k + 1))), none, some (Value.int 0), some (Value.int 1)] rfl ?_
              refine ac_kill 6 [some (Value.ref 121), some (Value.int (nI j)), some (Value.int x), some (Value.int 1), some (Value.int (nI (k + 1))), none, none, some (Value.int 1)] rfl ?_
              refine ac_kill 7 [some (Value.ref 121), some (Value.int (nI j)), some (Value.int x), some (Value.int 1), some (Value.int (nI (k + 1))), none, none, none] rfl ?_
              rw [show bi (∀ q, q < k + 1 → (M 122 (64 + q) = -9 ∨ x + M 122 (4 + 4 * j) + M 122 2 ≤ M 122 (64 + q) ∨ M 122 (64 + q) + M 122 (4 + 4 * q) + M 122 2 ≤ x)) = 1 from (bi_t (all_suc.mpr ⟨hb, by first | exact Or.inl (Classical.not_not.mp hq) | exact Or.inr (Or.inl (Int32.not_lt.mp c_45)) | exact Or.inr (Or.inr (Int32.not_lt.mp c_73))⟩))] at ih
              exact ih
            · have hq := bi_ne0.mp c_93
              refine ac_iload 98 dX8_isApart_96 rfl rfl ?_
              refine ac_if_ne 106 101 dX8_isApart_98 (by decide) rfl (fun c_98 => absurd (by decide) c_98) (fun _ => ?_)
              refine ac_iload 103 dX8_isApart_101 rfl rfl ?_
              refine ac_if_eq 110 106 dX8_isApart_103 (by decide) rfl (fun c_103 => absurd c_103 (by decide)) (fun _ => ?_)
              refine ac_iconst 107 1 dX8_isApart_106 rfl (by decide) ?_
              refine ac_goto 111 dX8_isApart_107 (by decide) ?_
              refine ac_istore_n 112 [some (Value.ref 121), some (Value.int (nI j)), some (Value.int x), some (Value.int 1), some (Value.int (nI k)), some (Value.int (M 122 (64 + (k)))), some (Value.int 0), some (Value.int 1)] dX8_isApart_111 rfl rfl (Nat.le_of_ble_eq_true rfl) (by decide) rfl ?_
              refine ac_iinc 115 (nI (k + 1)) [some (Value.ref 121), some (Value.int (nI j)), some (Value.int x), some (Value.int 1), some (Value.int (nI (k + 1))), some (Value.int (M 122 (64 + (k)))), some (Value.int 0), some (Value.int 1)] dX8_isApart_112 rfl rfl (nI_1 _) rfl (by decide) rfl ?_
              refine ac_goto 5 dX8_isApart_115 (by decide) ?_
              refine ac_kill 5 [some (Value.ref 121), some (Value.int (nI j)), some (Value.int x), some (Value.int 1), some (Value.int (nI (k + 1))), none, some (Value.int 0), some (Value.int 1)] rfl ?_
              refine ac_kill 6 [some (Value.ref 121), some (Value.int (nI j)), some (Value.int x), some (Value.int 1), some (Value.int (nI (k + 1))), none, none, some (Value.int 1)] rfl ?_
              refine ac_kill 7 [some (Value.ref 121), some (Value.int (nI j)), some (Value.int x), some (Value.int 1), some (Value.int (nI (k + 1))), none, none, none] rfl ?_
              rw [show bi (∀ q, q < k + 1 → (M 122 (64 + q) = -9 ∨ x + M 122 (4 + 4 * j) + M 122 2 ≤ M 122 (64 + q) ∨ M 122 (64 + q) + M 122 (4 + 4 * q) + M 122 2 ≤ x)) = 1 from (bi_t (all_suc.mpr ⟨hb, by first | exact Or.inl (Classical.not_not.mp hq) | exact Or.inr (Or.inl (Int32.not_lt.mp c_45)) | exact Or.inr (Or.inr (Int32.not_lt.mp c_73))⟩))] at ih
              exact ih
      · refine ac_iconst 49 1 dX8_isApart_48 rfl (by decide) ?_
        refine ac_goto 53 dX8_isApart_49 (by decide) ?_
        refine ac_istore 55 [some (Value.ref 121), some (Value.int (nI j)), some (Value.int x), some (Value.int (bi (∀ q, q < k → (M 122 (64 + q) = -9 ∨ x + M 122 (4 + 4 * j) + M 122 2 ≤ M 122 (64 + q) ∨ M 122 (64 + q) + M 122 (4 + 4 * q) + M 122 2 ≤ x)))), some (Value.int (nI k)), some (Value.int (M 122 (64 + (k)))), some (Value.int 1), none] dX8_isApart_53 rfl rfl (Nat.le_of_ble_eq_true rfl) (by decide) rfl ?_
        refine ac_iload 57 dX8_isApart_55 rfl rfl ?_
        refine ac_aload_n 58 dX8_isApart_57 rfl rfl ?_
        refine ac_iload 60 dX8_isApart_58 rfl rfl ?_
        refine ac_iconst 61 0 dX8_isApart_60 rfl (by decide) ?_
        refine ac_callV (μ' := m8_ofPicture) 64 dX8_isApart_61 rfl lk8_118 m8_ofPicture_V ob121 (c8_ofPicture (w := 0) (by omega) (by decide)) rfl rfl (by decide) (Nat.le_of_ble_eq_true rfl) ?_
        refine ac_iadd 65 dX8_isApart_64 rfl ?_
        refine ac_aload_n 66 dX8_isApart_65 rfl rfl ?_
        refine ac_getO 69 122 dX8_isApart_66 rfl fl8_7 ob121 rfl ?_
        refine ac_iconst 70 2 dX8_isApart_69 rfl (by decide) ?_
        refine ac_iald 71 dX8_isApart_70 rfl ar122 (ix_nI (k := 2) (by decide) (by decide)) ?_
        refine ac_iadd 72 dX8_isApart_71 rfl ?_
        refine ac_iload_n 73 dX8_isApart_72 rfl rfl ?_
        refine ac_icmp_gt 80 76 dX8_isApart_73 (by decide) rfl (fun c_73 => ?_) (fun c_73 => ?_)
        · refine ac_iconst 81 0 dX8_isApart_80 rfl (by decide) ?_
          refine ac_istore 83 [some (Value.ref 121), some (Value.int (nI j)), some (Value.int x), some (Value.int (bi (∀ q, q < k → (M 122 (64 + q) = -9 ∨ x + M 122 (4 + 4 * j) + M 122 2 ≤ M 122 (64 + q) ∨ M 122 (64 + q) + M 122 (4 + 4 * q) + M 122 2 ≤ x)))), some (Value.int (nI k)), some (Value.int (M 122 (64 + (k)))), some (Value.int 1), some (Value.int 0)] dX8_isApart_81 rfl rfl (Nat.le_of_ble_eq_true rfl) (by decide) rfl ?_
          refine ac_iload_n 84 dX8_isApart_83 rfl rfl ?_
          refine ac_if_eq 110 87 dX8_isApart_84 (by decide) rfl (fun c_84 => ?_) (fun c_84 => ?_)
          · have hb := bi_eq0.mp c_84
            refine ac_iconst 111 0 dX8_isApart_110 rfl (by decide) ?_
            refine ac_istore_n 112 [some (Value.ref 121), some (Value.int (nI j)), some (Value.int x), some (Value.int 0), some (Value.int (nI k)), some (Value.int (M 122 (64 + (k)))), some (Value.int 1), some (Value.int 0)] dX8_isApart_111 rfl rfl (Nat.le_of_ble_eq_true rfl) (by decide) rfl ?_
            refine ac_iinc 115 (nI (k + 1)) [some (Value.ref 121), some (Value.int (nI j)), some (Value.int x), some (Value.int 0), some (Value.int (nI (k + 1))), some (Value.int (M 122 (64 + (k)))), some (Value.int 1), some (Value.int 0)] dX8_isApart_112 rfl rfl (nI_1 _) rfl (by decide) rfl ?_
            refine ac_goto 5 dX8_isApart_115 (by decide) ?_
            refine ac_kill 5 [some (Value.ref 121), some (Value.int (nI j)), some (Value.int x), some (Value.int 0), some (Value.int (nI (k + 1))), none, some (Value.int 1), some (Value.int 0)] rfl ?_
            refine ac_kill 6 [some (Value.ref 121), some (Value.int (nI j)), some (Value.int x), some (Value.int 0), some (Value.int (nI (k + 1))), none, none, some (Value.int 0)] rfl ?_
            refine ac_kill 7 [some (Value.ref 121), some (Value.int (nI j)), some (Value.int x), some (Value.int 0), some (Value.int (nI (k + 1))), none, none, none] rfl ?_
            rw [show bi (∀ q, q < k + 1 → (M 122 (64 + q) = -9 ∨ x + M 122 (4 + 4 * j) + M 122 2 ≤ M 122 (64 + q) ∨ M 122 (64 + q) + M 122 (4 + 4 * q) + M 122 2 ≤ x)) = 0 from (bi_f (by first | exact fun h => hb (all_suc.mp h).1 | exact fun h => ((all_suc.mp h).2).elim hq (fun h2 => h2.elim (fun h3 => absurd c_45 (Int32.not_lt.mpr h3)) (fun h3 => absurd c_73 (Int32.not_lt.mpr h3)))))] at ih
            exact ih
          · have hb := bi_ne0.mp c_84
            refine ac_aload_n 88 dX8_isApart_87 rfl rfl ?_
            refine ac_iload 90 dX8_isApart_88 rfl rfl ?_
            refine ac_callV (μ' := m8_hangsNow) 93 dX8_isApart_90 rfl lk8_122 m8_hangsNow_V ob121 (c8_hangsNow (j := (k)) (by omega)) rfl rfl (by decide) (Nat.le_of_ble_eq_true rfl) ?_
            refine ac_if_eq 106 96 dX8_isApart_93 (by decide) rfl (fun c_93 => ?_) (fun c_93 => ?_)
            · have hq := bi_eq0.mp c_93
              refine ac_iconst 107 1 dX8_isApart_106 rfl (by decide) ?_
              refine ac_goto 111 dX8_isApart_107 (by decide) ?_
              refine ac_istore_n 112 [some (Value.ref 121), some (Value.int (nI j)), some (Value.int x), some (Value.int 1), some (Value.int (nI k)), some (Value.int (M 122 (64 + (k)))), some (Value.int 1), some (Value.int 0)] dX8_isApart_111 rfl rfl (Nat.le_of_ble_eq_true rfl) (by decide) rfl ?_
              refine ac_iinc 115 (nI (k + 1)) [some (Value.ref 121), some (Value.int (nI j)), some (Value.int x), some (Value.int 1), some (Value.int (nI (k + 1))), some (Value.int (M 122 (64 + (k)))), some (Value.int 1), some (Value.int 0)] dX8_isApart_112 rfl rfl (nI_1 _) rfl (by decide) rfl ?_
              refine ac_goto 5 dX8_isApart_115 (by decide) ?_
              refine ac_kill 5 [some (Value.ref 121), some (Value.int (nI j)), some (Value.int x), some (Value.int 1), some (Value.int (nI (k + 1))), none, some (Value.int 1), some (Value.int 0)] rfl ?_
              refine ac_kill 6 [some (Value.ref 121), some (Value.int (nI j)), some (Value.int x), some (Value.int 1), some (Value.int (nI (k + 1))), none, none, some (Value.int 0)] rfl ?_
              refine ac_kill 7 [some (Value.ref 121), some (Value.int (nI j)), some (Value.int x), some (Value.int 1), some (Value.int (nI (k + 1))), none, none, none] rfl ?_
              rw [show bi (∀ q, q < k + 1 → (M 122 (64 + q) = -9 ∨ x + M 122 (4 + 4 * j) + M 122 2 ≤ M 122 (64 + q) ∨ M 122 (64 + q) + M 122 (4 + 4 * q) + M 122 2 ≤ x)) = 1 from (bi_t (all_suc.mpr ⟨hb, by first | exact Or.inl (Classical.not_not.mp hq) | exact Or.inr (Or.inl (Int32.not_lt.mp c_45)) | exact Or.inr (Or.inr (Int32.not_lt.mp c_73))⟩))] at ih
              exact ih
            · have hq := bi_ne0.mp c_93
              refine ac_iload 98 dX8_isApart_96 rfl rfl ?_
              refine ac_if_ne 106 101 dX8_isApart_98 (by decide) rfl (fun _ => ?_) (fun c_98 => absurd c_98 (by decide))
              refine ac_iconst 107 1 dX8_isApart_106 rfl (by decide) ?_
              refine ac_goto 111 dX8_isApart_107 (by decide) ?_
              refine ac_istore_n 112 [some (Value.ref 121), some (Value.int (nI j)), some (Value.int x), some (Value.int 1), some (Value.int (nI k)), some (Value.int (M 122 (64 + (k)))), some (Value.int 1), some (Value.int 0)] dX8_isApart_111 rfl rfl (Nat.le_of_ble_eq_true rfl) (by decide) rfl ?_
              refine ac_iinc 115 (nI (k + 1)) [some (Value.ref 121), some (Value.int (nI j)), some (Value.int x), some (Value.int 1), some (Value.int (nI (k + 1))), some (Value.int (M 122 (64 + (k)))), some (Value.int 1), some (Value.int 0)] dX8_isApart_112 rfl rfl (nI_1 _) rfl (by decide) rfl ?_
              refine ac_goto 5 dX8_isApart_115 (by decide) ?_
              refine ac_kill 5 [some (Value.ref 121), some (Value.int (nI j)), some (Value.int x), some (Value.int 1), some (Value.int (nI (k + 1))), none, some (Value.int 1), some (Value.int 0)] rfl ?_
              refine ac_kill 6 [some (Value.ref 121), some (Value.int (nI j)), some (Value.int x), some (Value.int 1), some (Value.int (nI (k + 1))), none, none, some (Value.int 0)] rfl ?_
              refine ac_kill 7 [some (Value.ref 121), some (Value.int (nI j)), some (Value.int x), some (Value.int 1), some (Value.int (nI (k + 1))), none, none, none] rfl ?_
              rw [show bi (∀ q, q < k + 1 → (M 122 (64 + q) = -9 ∨ x + M 122 (4 + 4 * j) + M 122 2 ≤ M 122 (64 + q) ∨ M 122 (64 + q) + M 122 (4 + 4 * q) + M 122 2 ≤ x)) = 1 from (bi_t (all_suc.mpr ⟨hb, by first | exact Or.inl (Classical.not_not.mp hq) | exact Or.inr (Or.inl (Int32.not_lt.mp c_45)) | exact Or.inr (Or.inr (Int32.not_lt.mp c_73))⟩))] at ih
              exact ih
        · refine ac_iconst 77 1 dX8_isApart_76 rfl (by decide) ?_
          refine ac_goto 81 dX8_isApart_77 (by decide) ?_
          refine ac_istore 83 [some (Value.ref 121), some (Value.int (nI j)), some (Value.int x), some (Value.int (bi (∀ q, q < k → (M 122 (64 + q) = -9 ∨ x + M 122 (4 + 4 * j) + M 122 2 ≤ M 122 (64 + q) ∨ M 122 (64 + q) + M 122 (4 + 4 * q) + M 122 2 ≤ x)))), some (Value.int (nI k)), some (Value.int (M 122 (64 + (k)))), some (Value.int 1), some (Value.int 1)] dX8_isApart_81 rfl rfl (Nat.le_of_ble_eq_true rfl) (by decide) rfl ?_
          refine ac_iload_n 84 dX8_isApart_83 rfl rfl ?_
          refine ac_if_eq 110 87 dX8_isApart_84 (by decide) rfl (fun c_84 => ?_) (fun c_84 => ?_)
          · have hb := bi_eq0.mp c_84
            refine ac_iconst 111 0 dX8_isApart_110 rfl (by decide) ?_
            refine ac_istore_n 112 [some (Value.ref 121), some (Value.int (nI j)), some (Value.int x), some (Value.int 0), some (Value.int (nI k)), some (Value.int (M 122 (64 + (k)))), some (Value.int 1), some (Value.int 1)] dX8_isApart_111 rfl rfl (Nat.le_of_ble_eq_true rfl) (by decide) rfl ?_
            refine ac_iinc 115 (nI (k + 1)) [some (Value.ref 121), some (Value.int (nI j)), some (Value.int x), some (Value.int 0), some (Value.int (nI (k + 1))), some (Value.int (M 122 (64 + (k)))), some (Value.int 1), some (Value.int 1)] dX8_isApart_112 rfl rfl (nI_1 _) rfl (by decide) rfl ?_
            refine ac_goto 5 dX8_isApart_115 (by decide) ?_
            refine ac_kill 5 [some (Value.ref 121), some (Value.int (nI j)), some (Value.int x), some (Value.int 0), some (Value.int (nI (k + 1))), none, some (Value.int 1), some (Value.int 1)] rfl ?_
            refine ac_kill 6 [some (Value.ref 121), some (Value.int (nI j)), some (Value.int x), some (Value.int 0), some (Value.int (nI (k + 1))), none, none, some (Value.int 1)] rfl ?_
            refine ac_kill 7 [some (Value.ref 121), some (Value.int (nI j)), some (Value.int x), some (Value.int 0), some (Value.int (nI (k + 1))), none, none, none] rfl ?_
            rw [show bi (∀ q, q < k + 1 → (M 122 (64 + q) = -9 ∨ x + M 122 (4 + 4 * j) + M 122 2 ≤ M 122 (64 + q) ∨ M 122 (64 + q) + M 122 (4 + 4 * q) + M 122 2 ≤ x)) = 0 from (bi_f (by first | exact fun h => hb (all_suc.mp h).1 | exact fun h => ((all_suc.mp h).2).elim hq (fun h2 => h2.elim (fun h3 => absurd c_45 (Int32.not_lt.mpr h3)) (fun h3 => absurd c_73 (Int32.not_lt.mpr h3)))))] at ih
            exact ih
          · have hb := bi_ne0.mp c_84
            refine ac_aload_n 88 dX8_isApart_87 rfl rfl ?_
            refine ac_iload 90 dX8_isApart_88 rfl rfl ?_
            refine ac_callV (μ' := m8_hangsNow) 93 dX8_isApart_90 rfl lk8_122 m8_hangsNow_V ob121 (c8_hangsNow (j := (k)) (by omega)) rfl rfl (by decide) (Nat.le_of_ble_eq_true rfl) ?_
            refine ac_if_eq 106 96 dX8_isApart_93 (by decide) rfl (fun c_93 => ?_) (fun c_93 => ?_)
            · have hq := bi_eq0.mp c_93
              refine ac_iconst 107 1 dX8_isApart_106 rfl (by decide) ?_
              refine ac_goto 111 dX8_isApart_107 (by decide) ?_
              refine ac_istore_n 112 [some (Value.ref 121), some (Value.int (nI j)), some (Value.int x), some (Value.int 1), some (Value.int (nI k)), some (Value.int (M 122 (64 + (k)))), some (Value.int 1), some (Value.int 1)] dX8_isApart_111 rfl rfl (Nat.le_of_ble_eq_true rfl) (by decide) rfl ?_
              refine ac_iinc 115 (nI (k + 1)) [some (Value.ref 121), some (Value.int (nI j)), some (Value.int x), some (Value.int 1), some (Value.int (nI (k + 1))), some (Value.int (M 122 (64 + (k)))), some (Value.int 1), some (Value.int 1)] dX8_isApart_112 rfl rfl (nI_1 _) rfl (by decide) rfl ?_
              refine ac_goto 5 dX8_isApart_115 (by decide) ?_
              refine ac_kill 5 [some (Value.ref 121), some (Value.int (nI j)), some (Value.int x), some (Value.int 1), some (Value.int (nI (k + 1))), none, some (Value.int 1), some (Value.int 1)] rfl ?_
              refine ac_kill 6 [some (Value.ref 121), some (Value.int (nI j)), some (Value.int x), some (Value.int 1), some (Value.int (nI (k + 1))), none, none, some (Value.int 1)] rfl ?_
              refine ac_kill 7 [some (Value.ref 121), some (Value.int (nI j)), some (Value.int x), some (Value.int 1), some (Value.int (nI (k + 1))), none, none, none] rfl ?_
              rw [show bi (∀ q, q < k + 1 → (M 122 (64 + q) = -9 ∨ x + M 122 (4 + 4 * j) + M 122 2 ≤ M 122 (64 + q) ∨ M 122 (64 + q) + M 122 (4 + 4 * q) + M 122 2 ≤ x)) = 1 from (bi_t (all_suc.mpr ⟨hb, by first | exact Or.inl (Classical.not_not.mp hq) | exact Or.inr (Or.inl (Int32.not_lt.mp c_45)) | exact Or.inr (Or.inr (Int32.not_lt.mp c_73))⟩))] at ih
              exact ih
            · have hq := bi_ne0.mp c_93
              refine ac_iload 98 dX8_isApart_96 rfl rfl ?_
              refine ac_if_ne 106 101 dX8_isApart_98 (by decide) rfl (fun _ => ?_) (fun c_98 => absurd c_98 (by decide))
              refine ac_iconst 107 1 dX8_isApart_106 rfl (by decide) ?_
              refine ac_goto 111 dX8_isApart_107 (by decide) ?_
              refine ac_istore_n 112 [some (Value.ref 121), some (Value.int (nI j)), some (Value.int x), some (Value.int 1), some (Value.int (nI k)), some (Value.int (M 122 (64 + (k)))), some (Value.int 1), some (Value.int 1)] dX8_isApart_111 rfl rfl (Nat.le_of_ble_eq_true rfl) (by decide) rfl ?_
              refine ac_iinc 115 (nI (k + 1)) [some (Value.ref 121), some (Value.int (nI j)), some (Value.int x), some (Value.int 1), some (Value.int (nI (k + 1))), some (Value.int (M 122 (64 + (k)))), some (Value.int 1), some (Value.int 1)] dX8_isApart_112 rfl rfl (nI_1 _) rfl (by decide) rfl ?_
              refine ac_goto 5 dX8_isApart_115 (by decide) ?_
              refine ac_kill 5 [some (Value.ref 121), some (Value.int (nI j)), some (Value.int x), some (Value.int 1), some (Value.int (nI (k + 1))), none, some (Value.int 1), some (Value.int 1)] rfl ?_
              refine ac_kill 6 [some (Value.ref 121), some (Value.int (nI j)), some (Value.int x), some (Value.int 1), some (Value.int (nI (k + 1))), none, none, some (Value.int 1)] rfl ?_
              refine ac_kill 7 [some (Value.ref 121), some (Value.int (nI j)), some (Value.int x), some (Value.int 1), some (Value.int (nI (k + 1))), none, none, none] rfl ?_
              rw [show bi (∀ q, q < k + 1 → (M 122 (64 + q) = -9 ∨ x + M 122 (4 + 4 * j) + M 122 2 ≤ M 122 (64 + q) ∨ M 122 (64 + q) + M 122 (4 + 4 * q) + M 122 2 ≤ x)) = 1 from (bi_t (all_suc.mpr ⟨hb, by first | exact Or.inl (Classical.not_not.mp hq) | exact Or.inr (Or.inl (Int32.not_lt.mp c_45)) | exact Or.inr (Or.inr (Int32.not_lt.mp c_73))⟩))] at ih
              exact ih
  refine ac_iconst 3 0 dX8_isApart_2 rfl (by decide) ?_
  refine ac_istore 5 [some (Value.ref 121), some (Value.int (nI j)), some (Value.int x), some (Value.int 1), some (Value.int 0), none, none, none] dX8_isApart_3 rfl rfl (Nat.le_of_ble_eq_true rfl) (by decide) rfl ?_
  rw [show bi (∀ q, q < 0 → (M 122 (64 + q) = -9 ∨ x + M 122 (4 + 4 * j) + M 122 2 ≤ M 122 (64 + q) ∨ M 122 (64 + q) + M 122 (4 + 4 * q) + M 122 2 ≤ x)) = 1 from bi_t (fun q hq => absurd hq (Nat.not_lt_zero q))] at hL
  exact hL
set_option maxRecDepth 20000 in
theorem c8_holeAt {M : am_I} {V : am_J} {f : Nat → Option Nat} {np nd nh : Nat} (hn : NC (M 122) np nd nh) (X Y : Int32) : CT m8_holeAt 1 [Value.ref 121, Value.int X, Value.int Y] M V f (RV (laN (fun k => M 122 (32 + 2 * k) = X ∧ M 122 (32 + 2 * k + 1) = Y) nh) M V f) := by
  have hnh := hn.2.2.2.2.2
  refine CT.of m8_holeAt_V.1 _ (en_aii_5 121 X Y) ?_
  refine ac_bipush 2 (-9) dX8_holeAt_0 rfl (by decide) ?_
  refine ac_istore_n 3 [some (Value.ref 121), some (Value.int X), some (Value.int Y), some (Value.int (-9)), none] dX8_holeAt_2 rfl rfl (Nat.le_of_ble_eq_true rfl) (by decide) rfl ?_
  have hL : A0 m8_holeAt 1 6 [some (Value.ref 121), some (Value.int X), some (Value.int Y), some (Value.int (laN (fun k => M 122 (32 + 2 * k) = X ∧ M 122 (32 + 2 * k + 1) = Y) 0)), some (Value.int (nI 0))] [] M V f (RV (laN (fun k => M 122 (32 + 2 * k) = X ∧ M 122 (32 + 2 * k + 1) = Y) nh) M V f) := by
    refine ac_down (n := nh) (P := fun k => A0 m8_holeAt 1 6 [some (Value.ref 121), some (Value.int X), some (Value.int Y), some (Value.int (laN (fun k => M 122 (32 + 2 * k) = X ∧ M 122 (32 + 2 * k + 1) = Y) k)), some (Value.int (nI k))] [] M V f (RV (laN (fun k => M 122 (32 + 2 * k) = X ∧ M 122 (32 + 2 * k + 1) = Y) nh) M V f)) ?_ ?_ 0 (Nat.zero_le _) 
    · refine ac_iload 8 dX8_holeAt_6 rfl rfl ?_
      refine ac_aload_n 9 dX8_holeAt_8 rfl rfl ?_
      refine ac_getO 12 122 dX8_holeAt_9 rfl fl8_7 ob121 rfl ?_
      refine ac_bipush 14 31 dX8_holeAt_12 rfl (by decide) ?_
      refine ac_iald 15 dX8_holeAt_14 rfl ar122 (ix_nI (k := 31) (by decide) (by decide)) ?_
      refine ac_icmp_ge 65 18 dX8_holeAt_15 (by decide) rfl (fun _ => ?_) (fun c_15 => absurd (by rw [hn.2.2.2.2.1]; exact Int32.le_refl _) c_15)
      refine ac_iload_n 66 dX8_holeAt_65 rfl rfl ?_
      refine ac_iret dX8_holeAt_66 ⟨_, rfl, rfl⟩ ?_
      exact rv_mk rfl
    · intro k hk ih
      refine ac_iload 8 dX8_holeAt_6 rfl rfl ?_
      refine ac_aload_n 9 dX8_holeAt_8 rfl rfl ?_
      refine ac_getO 12 122 dX8_holeAt_9 rfl fl8_7 ob121 rfl ?_
      refine ac_bipush 14 31 dX8_holeAt_12 rfl (by decide) ?_
      refine ac_iald 15 dX8_holeAt_14 rfl ar122 (ix_nI (k := 31) (by decide) (by decide)) ?_
      refine ac_icmp_ge 65 18 dX8_holeAt_15 (by decide) rfl (fun c_15 => absurd c_15 (by rw [hn.2.2.2.2.1]; exact nI_ge hk (by omega))) (fun _ => ?_)
      refine ac_aload_n 19 dX8_holeAt_18 rfl rfl ?_
      refine ac_getO 22 122 dX8_holeAt_19 rfl fl8_7 ob121 rfl ?_
      refine ac_bipush 24 32 dX8_holeAt_22 rfl (by decide) ?_
      refine ac_iconst 25 2 dX8_holeAt_24 rfl (by decide) ?_
      refine ac_iload 27 dX8_holeAt_25 rfl rfl ?_
      refine ac_imul 28 dX8_holeAt_27 rfl ?_
      refine ac_iadd 29 dX8_holeAt_28 rfl ?_
      refine ac_iald 30 dX8_holeAt_29 rfl ar122 (ix_of (k := (32 + (2 * (k)))) (by simp only [show (2 : Int32) = nI 2 from rfl, show (32 : Int32) = nI 32 from rfl, pk_mul, nI_add]) (by omega) (by decide)) ?_
      refine ac_iload_n 31 dX8_holeAt_30 rfl rfl ?_
      refine ac_icmp_ne 57 34 dX8_holeAt_31 (by decide) rfl (fun c_31 => ?_) (fun c_31 => ?_)
      · refine ac_iload_n 58 dX8_holeAt_57 rfl rfl ?_
        refine ac_istore_n 59 [some (Value.ref 121), some (Value.int X), some (Value.int Y), some (Value.int (laN (fun k => M 122 (32 + 2 * k) = X ∧ M 122 (32 + 2 * k + 1) = Y) k)), some (Value.int (nI k))] dX8_holeAt_58 rfl rfl (Nat.le_of_ble_eq_true rfl) (by decide) rfl ?_
        refine ac_iinc 62 (nI (k + 1)) [some (Value.ref 121), some (Value.int X), some (Value.int Y), some (Value.int (laN (fun k => M 122 (32 + 2 * k) = X ∧ M 122 (32 + 2 * k + 1) = Y) k)), some (Value.int (nI (k + 1)))] dX8_holeAt_59 rfl rfl (nI_1 _) rfl (by decide) rfl ?_
        refine ac_goto 6 dX8_holeAt_62 (by decide) ?_
        rw [show laN (fun k => M 122 (32 + 2 * k) = X ∧ M 122 (32 + 2 * k + 1) = Y) (k + 1) = (laN (fun k => M 122 (32 + 2 * k) = X ∧ M 122 (32 + 2 * k + 1) = Y) k) from laN_f (by first | exact fun h => c_31 h.1 | exact fun h => c_49 h.2)] at ih
        exact ih
      · refine ac_aload_n 35 dX8_holeAt_34 rfl rfl ?_
        refine ac_getO 38 122 dX8_holeAt_35 rfl fl8_7 ob121 rfl ?_
        refine ac_bipush 40 32 dX8_holeAt_38 rfl (by decide) ?_
        refine ac_iconst 41 2 dX8_holeAt_40 rfl (by decide) ?_
        refine ac_iload 43 dX8_holeAt_41 rfl rfl ?_
        refine ac_imul 44 dX8_holeAt_43 rfl ?_
        refine ac_iadd 45 dX8_holeAt_44 rfl ?_
        refine ac_iconst 46 1 dX8_holeAt_45 rfl (by decide) ?_
        refine ac_iadd 47 dX8_holeAt_46 rfl ?_
        refine ac_iald 48 dX8_holeAt_47 rfl ar122 (ix_of (k := ((32 + (2 * (k))) + 1)) (by simp only [show (1 : Int32) = nI 1 from rfl, show (2 : Int32) = nI 2 from rfl, show (32 : Int32) = nI 32 from rfl, pk_mul, nI_add]) (by omega) (by decide)) ?_
        refine ac_iload_n 49 dX8_holeAt_48 rfl rfl ?_
        refine ac_icmp_ne 57 52 dX8_holeAt_49 (by decide) rfl (fun c_49 => ?_) (fun c_49 => ?_)
        · refine ac_iload_n 58 dX8_holeAt_57 rfl rfl ?_
          refine ac_istore_n 59 [some (Value.ref 121), some (Value.int X), some (Value.int Y), some (Value.int (laN (fun k => M 122 (32 + 2 * k) = X ∧ M 122 (32 + 2 * k + 1) = Y) k)), some (Value.int (nI k))] dX8_holeAt_58 rfl rfl (Nat.le_of_ble_eq_true rfl) (by decide) rfl ?_
          refine ac_iinc 62 (nI (k + 1)) [some (Value.ref 121), some (Value.int X), some (Value.int Y), some (Value.int (laN (fun k => M 122 (32 + 2 * k) = X ∧ M 122 (32 + 2 * k + 1) = Y) k)), some (Value.int (nI (k + 1)))] dX8_holeAt_59 rfl rfl (nI_1 _) rfl (by decide) rfl ?_
          refine ac_goto 6 dX8_holeAt_62 (by decide) ?_
          rw [show laN (fun k => M 122 (32 + 2 * k) = X ∧ M 122 (32 + 2 * k + 1) = Y) (k + 1) = (laN (fun k => M 122 (32 + 2 * k) = X ∧ M 122 (32 + 2 * k + 1) = Y) k) from laN_f (by first | exact fun h => c_31 h.1 | exact fun h => c_49 h.2)] at ih
          exact ih
        · refine ac_iload 54 dX8_holeAt_52 rfl rfl ?_
          refine ac_goto 58 dX8_holeAt_54 (by decide) ?_
          refine ac_istore_n 59 [some (Value.ref 121), some (Value.int X), some (Value.int Y), some (Value.int (nI k)), some (Value.int (nI k))] dX8_holeAt_58 rfl rfl (Nat.le_of_ble_eq_true rfl) (by decide) rfl ?_
          refine ac_iinc 62 (nI (k + 1)) [some (Value.ref 121), some (Value.int X), some (Value.int Y), some (Value.int (nI k)), some (Value.int (nI (k + 1)))] dX8_holeAt_59 rfl rfl (nI_1 _) rfl (by decide) rfl ?_
          refine ac_goto 6 dX8_holeAt_62 (by decide) ?_
          rw [show laN (fun k => M 122 (32 + 2 * k) = X ∧ M 122 (32 + 2 * k + 1) = Y) (k + 1) = (nI k) from laN_t ⟨c_31, c_49⟩] at ih
          exact ih
  refine ac_iconst 4 0 dX8_holeAt_3 rfl (by decide) ?_
  refine ac_istore 6 [some (Value.ref 121), some (Value.int X), some (Value.int Y), some (Value.int (-9)), some (Value.int 0)] dX8_holeAt_4 rfl rfl (Nat.le_of_ble_eq_true rfl) (by decide) rfl ?_
  exact hL
theorem laN_ne {p : Nat → Prop} : ∀ {n : Nat}, n < 2 ^ 31 → (laN p n ≠ -9 ↔ ∃ k, k < n ∧ p k)
  | 0, _ => ⟨fun h => absurd rfl h, fun ⟨k, hk, _⟩ => absurd hk (Nat.not_lt_zero k)⟩
  | n + 1, hn => by
    by_cases h : p n
    · rw [laN_t h]
      refine ⟨fun _ => ⟨n, by omega, h⟩, fun _ h9 => ?_⟩
      have := congrArg Int32.toInt h9
      rw [nI_toInt (by omega)] at this
      have e : (-9 : Int32).toInt = -9 := by decide
      omega
    · rw [laN_f h, laN_ne (by omega), ex_suc]
      exact ⟨Or.inl, fun h2 => h2.elim id (fun h3 => absurd h3 h)⟩
set_option maxRecDepth 20000 in
theorem c8_hasHole {M : am_I} {V : am_J} {f : Nat → Option Nat} {np nd nh j : Nat} (hn : NC (M 122) np nd nh) (hj : j < 5) (x : Int32) : CT m8_hasHole 3 [Value.ref 121, Value.int (nI j), Value.int x] M V f (RV (bi (hoN (M 122) nh (hkX (M 122) j x) (hkY (M 122) j))) M V f) := by
  have hnh := hn.2.2.2.2.2
  refine CT.of m8_hasHole_V.1 _ (en_aii_3 121 (nI j) x) ?_
  refine ac_aload_n 1 dX8_hasHole_0 rfl rfl ?_
  refine ac_aload_n 2 dX8_hasHole_1 rfl rfl ?_
  refine ac_iload_n 3 dX8_hasHole_2 rfl rfl ?_
  refine ac_iload_n 4 dX8_hasHole_3 rfl rfl ?_
  refine ac_callV (μ' := m8_hookX) 7 dX8_hasHole_4 rfl lk8_126 m8_hookX_V ob121 (c8_hookX hj _) rfl rfl (by decide) (Nat.le_of_ble_eq_true rfl) ?_
  refine ac_aload_n 8 dX8_hasHole_7 rfl rfl ?_
  refine ac_iload_n 9 dX8_hasHole_8 rfl rfl ?_
  refine ac_callV (μ' := m8_hookY) 12 dX8_hasHole_9 rfl lk8_129 m8_hookY_V ob121 (c8_hookY hj) rfl rfl (by decide) (Nat.le_of_ble_eq_true rfl) ?_
  refine ac_callV (μ' := m8_holeAt) 15 dX8_hasHole_12 rfl lk8_133 m8_holeAt_V ob121 (c8_holeAt hn _ _) rfl rfl (by decide) (Nat.le_of_ble_eq_true rfl) ?_
  refine ac_bipush 17 (-9) dX8_hasHole_15 rfl (by decide) ?_
  refine ac_icmp_eq 24 20 dX8_hasHole_17 (by decide) rfl (fun c_17 => ?_) (fun c_17 => ?_)
  · refine ac_iconst 25 0 dX8_hasHole_24 rfl (by decide) ?_
    refine ac_iret dX8_hasHole_25 ⟨_, rfl, rfl⟩ ?_
    exact rv_mk (bi_f (by first | exact (laN_ne (by omega)).mp c_17 | exact fun h => absurd c_17 ((laN_ne (by omega)).mpr h) | simp_all)).symm
  · refine ac_iconst 21 1 dX8_hasHole_20 rfl (by decide) ?_
    refine ac_goto 25 dX8_hasHole_21 (by decide) ?_
    refine ac_iret dX8_hasHole_25 ⟨_, rfl, rfl⟩ ?_
    exact rv_mk (bi_t (by first | exact (laN_ne (by omega)).mp c_17 | exact fun h => absurd c_17 ((laN_ne (by omega)).mpr h) | simp_all)).symm
set_option maxRecDepth 20000 in
theorem c8_hangingAt {M : am_I} {V : am_J} {f : Nat → Option Nat} {np nd nh i : Nat} (hn : NC (M 122) np nd nh) (hi : i < 16) : CT m8_hangingAt 3 [Value.ref 121, Value.int (nI i)] M V f (RV (laN (onN (M 122) i) np) M V f) := by
  have hnp := hn.2.1
  refine CT.of m8_hangingAt_V.1 _ (en_ai_5 121 (nI i)) ?_
  refine ac_bipush 2 (-9) dX8_hangingAt_0 rfl (by decide) ?_
  refine ac_istore_n 3 [some (Value.ref 121), some (Value.int (nI i)), some (Value.int (-9)), none, none] dX8_hangingAt_2 rfl rfl (Nat.le_of_ble_eq_true rfl) (by decide) rfl ?_
  have hL : A0 m8_hangingAt 3 5 [some (Value.ref 121), some (Value.int (nI i)), some (Value.int (laN (onN (M 122) i) 0)), some (Value.int (nI 0)), none] [] M V f (RV (laN (onN (M 122) i) np) M V f) := by
    refine ac_down (n := np) (P := fun k => A0 m8_hangingAt 3 5 [some (Value.ref 121), some (Value.int (nI i)), some (Value.int (laN (onN (M 122) i) k)), some (Value.int (nI k)), none] [] M V f (RV (laN (onN (M 122) i) np) M V f)) ?_ ?_ 0 (Nat.zero_le _) 
    · refine ac_iload_n 6 dX8_hangingAt_5 rfl rfl ?_
      refine ac_aload_n 7 dX8_hangingAt_6 rfl rfl ?_
      refine ac_getO 10 122 dX8_hangingAt_7 rfl fl8_7 ob121 rfl ?_
      refine ac_iconst 11 3 dX8_hangingAt_10 rfl (by decide) ?_
      refine ac_iald 12 dX8_hangingAt_11 rfl ar122 (ix_nI (k := 3) (by decide) (by decide)) ?_
      refine ac_icmp_ge 96 15 dX8_hangingAt_12 (by decide) rfl (fun _ => ?_) (fun c_12 => absurd (by rw [hn.1]; exact Int32.le_refl _) c_12)
      refine ac_iload_n 97 dX8_hangingAt_96 rfl rfl ?_
      refine ac_iret dX8_hangingAt_97 ⟨_, rfl, rfl⟩ ?_
      exact rv_mk rfl
    · intro k hk ih
      refine ac_iload_n 6 dX8_hangingAt_5 rfl rfl ?_
      refine ac_aload_n 7 dX8_hangingAt_6 rfl rfl ?_
      refine ac_getO 10 122 dX8_hangingAt_7 rfl fl8_7 ob121 rfl ?_
      refine ac_iconst 11 3 dX8_hangingAt_10 rfl (by decide) ?_
      refine ac_iald 12 dX8_hangingAt_11 rfl ar122 (ix_nI (k := 3) (by decide) (by decide)) ?_
      refine ac_icmp_ge 96 15 dX8_hangingAt_12 (by decide) rfl (fun c_12 => absurd c_12 (by rw [hn.1]; exact nI_ge hk (by omega))) (fun _ => ?_)
      refine ac_aload_n 16 dX8_hangingAt_15 rfl rfl ?_
      refine ac_iload_n 17 dX8_hangingAt_16 rfl rfl ?_
      refine ac_callV (μ' := m8_hangsNow) 20 dX8_hangingAt_17 rfl lk8_122 m8_hangsNow_V ob121 (c8_hangsNow (j := (k)) (by omega)) rfl rfl (by decide) (Nat.le_of_ble_eq_true rfl) ?_
      refine ac_if_eq 76 23 dX8_hangingAt_20 (by decide) rfl (fun c_20 => ?_) (fun c_20 => ?_)
      · have hq := bi_eq0.mp c_20
        refine ac_iconst 77 0 dX8_hangingAt_76 rfl (by decide) ?_
        refine ac_istore 79 [some (Value.ref 121), some (Value.int (nI i)), some (Value.int (laN (onN (M 122) i) k)), some (Value.int (nI k)), some (Value.int 0)] dX8_hangingAt_77 rfl rfl (Nat.le_of_ble_eq_true rfl) (by decide) rfl ?_
        refine ac_iload 81 dX8_hangingAt_79 rfl rfl ?_
        refine ac_if_eq 88 84 dX8_hangingAt_81 (by decide) rfl (fun _ => ?_) (fun c_81 => absurd (by decide) c_81)
        refine ac_iload_n 89 dX8_hangingAt_88 rfl rfl ?_
        refine ac_istore_n 90 [some (Value.ref 121), some (Value.int (nI i)), some (Value.int (laN (onN (M 122) i) k)), some (Value.int (nI k)), some (Value.int 0)] dX8_hangingAt_89 rfl rfl (Nat.le_of_ble_eq_true rfl) (by decide) rfl ?_
        refine ac_iinc 93 (nI (k + 1)) [some (Value.ref 121), some (Value.int (nI i)), some (Value.int (laN (onN (M 122) i) k)), some (Value.int (nI (k + 1))), some (Value.int 0)] dX8_hangingAt_90 rfl rfl (nI_1 _) rfl (by decide) rfl ?_
        refine ac_goto 5 dX8_hangingAt_93 (by decide) ?_
        refine ac_kill 4 [some (Value.ref 121), some (Value.int (nI i)), some (Value.int (laN (onN (M 122) i) k)), some (Value.int (nI (k + 1))), none] rfl ?_
        rw [show laN (onN (M 122) i) (k + 1) = (laN (onN (M 122) i) k) from laN_f (by first | exact fun h => hq h.1 | exact fun h => c_48 h.2.1 | exact fun h => c_69 h.2.2)] at ih
        exact ih
      · have hq := bi_ne0.mp c_20
        refine ac_aload_n 24 dX8_hangingAt_23 rfl rfl ?_
        refine ac_iload_n 25 dX8_hangingAt_24 rfl rfl ?_
        refine ac_aload_n 26 dX8_hangingAt_25 rfl rfl ?_
        refine ac_getO 29 122 dX8_hangingAt_26 rfl fl8_7 ob121 rfl ?_
        refine ac_bipush 31 64 dX8_hangingAt_29 rfl (by decide) ?_
        refine ac_iload_n 32 dX8_hangingAt_31 rfl rfl ?_
        refine ac_iadd 33 dX8_hangingAt_32 rfl ?_
        refine ac_iald 34 dX8_hangingAt_33 rfl ar122 (ix_of (k := (64 + (k))) (by simp only [show (64 : Int32) = nI 64 from rfl, pk_mul, nI_add]) (by omega) (by decide)) ?_
        refine ac_callV (μ' := m8_hookX) 37 dX8_hangingAt_34 rfl lk8_126 m8_hookX_V ob121 (c8_hookX (by omega) _) rfl rfl (by decide) (Nat.le_of_ble_eq_true rfl) ?_
        refine ac_aload_n 38 dX8_hangingAt_37 rfl rfl ?_
        refine ac_getO 41 122 dX8_hangingAt_38 rfl fl8_7 ob121 rfl ?_
        refine ac_bipush 43 32 dX8_hangingAt_41 rfl (by decide) ?_
        refine ac_iconst 44 2 dX8_hangingAt_43 rfl (by decide) ?_
        refine ac_iload_n 45 dX8_hangingAt_44 rfl rfl ?_
        refine ac_imul 46 dX8_hangingAt_45 rfl ?_
        refine ac_iadd 47 dX8_hangingAt_46 rfl ?_
        refine ac_iald 48 dX8_hangingAt_47 rfl ar122 (ix_of (k := (32 + (2 * (i)))) (by simp only [show (2 : Int32) = nI 2 from rfl, show (32 : Int32) = nI 32 from rfl, pk_mul, nI_add]) (by omega) (by decide)) ?_
        refine ac_icmp_ne 76 51 dX8_hangingAt_48 (by decide) rfl (fun c_48 => ?_) (fun c_48 => ?_)
        · refine ac_iconst 77 0 dX8_hangingAt_76 rfl (by decide) ?_
          refine ac_istore 79 [some (Value.ref 121), some (Value.int (nI i)), some (Value.int (laN (onN (M 122) i) k)), some (Value.int (nI k)), some (Value.int 0)] dX8_hangingAt_77 rfl rfl (Nat.le_of_ble_eq_true rfl) (by decide) rfl ?_
          refine ac_iload 81 dX8_hangingAt_79 rfl rfl ?_
          refine ac_if_eq 88 84 dX8_hangingAt_81 (by decide) rfl (fun _ => ?_) (fun c_81 => absurd (by decide) c_81)
          refine ac_iload_n 89 dX8_hangingAt_88 rfl rfl ?_
          refine ac_istore_n 90 [some (Value.ref 121), some (Value.int (nI i)), some (Value.int (laN (onN (M 122) i) k)), some (Value.int (nI k)), some (Value.int 0)] dX8_hangingAt_89 rfl rfl (Nat.le_of_ble_eq_true rfl) (by decide) rfl ?_
          refine ac_iinc 93 (nI (k + 1)) [some (Value.ref 121), some (Value.int (nI i)), some (Value.int (laN (onN (M 122) i) k)), some (Value.int (nI (k + 1))), some (Value.int 0)] dX8_hangingAt_90 rfl rfl (nI_1 _) rfl (by decide) rfl ?_
          refine ac_goto 5 dX8_hangingAt_93 (by decide) ?_
          refine ac_kill 4 [some (Value.ref 121), some (Value.int (nI i)), some (Value.int (laN (onN (M 122) i) k)), some (Value.int (nI (k + 1))), none] rfl ?_
          rw [show laN (onN (M 122) i) (k + 1) = (laN (onN (M 122) i) k) from laN_f (by first | exact fun h => hq h.1 | exact fun h => c_48 h.2.1 | exact fun h => c_69 h.2.2)] at ih
          exact ih
        · refine ac_aload_n 52 dX8_hangingAt_51 rfl rfl ?_
          refine ac_iload_n 53 dX8_hangingAt_52 rfl rfl ?_
          refine ac_callV (μ' := m8_hookY) 56 dX8_hangingAt_53 rfl lk8_129 m8_hookY_V ob121 (c8_hookY (by omega)) rfl rfl (by decide) (Nat.le_of_ble_eq_true rfl) ?_
          refine ac_aload_n 57 dX8_hangingAt_56 rfl rfl ?_
          refine ac_getO 60 122 dX8_hangingAt_57 rfl fl8_7 ob121 rfl ?_
          refine ac_bipush 62 32 dX8_hangingAt_60 rfl (by decide) ?_
          refine ac_iconst 63 2 dX8_hangingAt_62 rfl (by decide) ?_
          refine ac_iload_n 64 dX8_hangingAt_63 rfl rfl ?_
          refine ac_imul 65 dX8_hangingAt_64 rfl ?_
          refine ac_iadd 66 dX8_hangingAt_65 rfl ?_
          refine ac_iconst 67 1 dX8_hangingAt_66 rfl (by decide) ?_
          refine ac_iadd 68 dX8_hangingAt_67 rfl ?_
          refine ac_iald 69 dX8_hangingAt_68 rfl ar122 (ix_of (k := ((32 + (2 * (i))) + 1)) (by simp only [show (1 : Int32) = nI 1 from rfl, show (2 : Int32) = nI 2 from rfl, show (32 : Int32) = nI 32 from rfl, pk_mul, nI_add]) (by omega) (by decide)) ?_
          refine ac_icmp_ne 76 72 dX8_hangingAt_69 (by decide) rfl (fun c_69 => ?_) (fun c_69 => ?_)
          · refine ac_iconst 77 0 dX8_hangingAt_76 rfl (by decide) ?_
            refine ac_istore 79 [some (Value.ref 121), some (Value.int (nI i)), some (Value.int (laN (onN (M 122) i) k)), some (Value.int (nI k)), some (Value.int 0)] dX8_hangingAt_77 rfl rfl (Nat.le_of_ble_eq_true rfl) (by decide) rfl ?_
            refine ac_iload 81 dX8_hangingAt_79 rfl rfl ?_
            refine ac_if_eq 88 84 dX8_hangingAt_81 (by decide) rfl (fun _ => ?_) (fun c_81 => absurd (by decide) c_81)
            refine ac_iload_n 89 dX8_hangingAt_88 rfl rfl ?_
            refine ac_istore_n 90 [some (Value.ref 121), some (Value.int (nI i)), some (Value.int (laN (onN (M 122) i) k)), some (Value.int (nI k)), some (Value.int 0)] dX8_hangingAt_89 rfl rfl (Nat.le_of_ble_eq_true rfl) (by decide) rfl ?_
            refine ac_iinc 93 (nI (k + 1)) [some (Value.ref 121), some (Value.int (nI i)), some (Value.int (laN (onN (M 122) i) k)), some (Value.int (nI (k + 1))), some (Value.int 0)] dX8_hangingAt_90 rfl rfl (nI_1 _) rfl (by decide) rfl ?_
            refine ac_goto 5 dX8_hangingAt_93 (by decide) ?_
            refine ac_kill 4 [some (Value.ref 121), some (Value.int (nI i)), some (Value.int (laN (onN (M 122) i) k)), some (Value.int (nI (k + 1))), none] rfl ?_
            rw [show laN (onN (M 122) i) (k + 1) = (laN (onN (M 122) i) k) from laN_f (by first | exact fun h => hq h.1 | exact fun h => c_48 h.2.1 | exact fun h => c_69 h.2.2)] at ih
            exact ih
          · refine ac_iconst 73 1 dX8_hangingAt_72 rfl (by decide) ?_
            refine ac_goto 77 dX8_hangingAt_73 (by decide) ?_
            refine ac_istore 79 [some (Value.ref 121), some (Value.int (nI i)), some (Value.int (laN (onN (M 122) i) k)), some (Value.int (nI k)), some (Value.int 1)] dX8_hangingAt_77 rfl rfl (Nat.le_of_ble_eq_true rfl) (by decide) rfl ?_
            refine ac_iload 81 dX8_hangingAt_79 rfl rfl ?_
            refine ac_if_eq 88 84 dX8_hangingAt_81 (by decide) rfl (fun c_81 => absurd c_81 (by decide)) (fun _ => ?_)
            refine ac_iload_n 85 dX8_hangingAt_84 rfl rfl ?_
            refine ac_goto 89 dX8_hangingAt_85 (by decide) ?_
            refine ac_istore_n 90 [some (Value.ref 121), some (Value.int (nI i)), some (Value.int (nI k)), some (Value.int (nI k)), some (Value.int 1)] dX8_hangingAt_89 rfl rfl (Nat.le_of_ble_eq_true rfl) (by decide) rfl ?_
            refine ac_iinc 93 (nI (k + 1)) [some (Value.ref 121), some (Value.int (nI i)), some (Value.int (nI k)), some (Value.int (nI (k + 1))), some (Value.int 1)] dX8_hangingAt_90 rfl rfl (nI_1 _) rfl (by decide) rfl ?_
            refine ac_goto 5 dX8_hangingAt_93 (by decide) ?_
            refine ac_kill 4 [some (Value.ref 121), some (Value.int (nI i)), some (Value.int (nI k)), some (Value.int (nI (k + 1))), none] rfl ?_
            rw [show laN (onN (M 122) i) (k + 1) = (nI k) from laN_t ⟨hq, c_48, c_69⟩] at ih
            exact ih
  refine ac_iconst 4 0 dX8_hangingAt_3 rfl (by decide) ?_
  refine ac_istore_n 5 [some (Value.ref 121), some (Value.int (nI i)), some (Value.int (-9)), some (Value.int 0), none] dX8_hangingAt_4 rfl rfl (Nat.le_of_ble_eq_true rfl) (by decide) rfl ?_
  exact hL
set_option maxRecDepth 20000 in
theorem c8_momentNow {M : am_I} {V : am_J} {f : Nat → Option Nat} {np nd nh : Nat} (hn : NC (M 122) np nd nh) : CT m8_momentNow 4 [Value.ref 121] M V f (RV (moN (M 122) np) M V f) := by
  have hnp := hn.2.1
  refine CT.of m8_momentNow_V.1 _ (en_a_3 121) ?_
  refine ac_iconst 1 0 dX8_momentNow_0 rfl (by decide) ?_
  refine ac_istore_n 2 [some (Value.ref 121), some (Value.int 0), none] dX8_momentNow_1 rfl rfl (Nat.le_of_ble_eq_true rfl) (by decide) rfl ?_
  have hL : A0 m8_momentNow 4 4 [some (Value.ref 121), some (Value.int (moN (M 122) 0)), some (Value.int (nI 0))] [] M V f (RV (moN (M 122) np) M V f) := by
    refine ac_down (n := np) (P := fun k => A0 m8_momentNow 4 4 [some (Value.ref 121), some (Value.int (moN (M 122) k)), some (Value.int (nI k))] [] M V f (RV (moN (M 122) np) M V f)) ?_ ?_ 0 (Nat.zero_le _) 
    · refine ac_iload_n 5 dX8_momentNow_4 rfl rfl ?_
      refine ac_aload_n 6 dX8_momentNow_5 rfl rfl ?_
      refine ac_getO 9 122 dX8_momentNow_6 rfl fl8_7 ob121 rfl ?_
      refine ac_iconst 10 3 dX8_momentNow_9 rfl (by decide) ?_
      refine ac_iald 11 dX8_momentNow_10 rfl ar122 (ix_nI (k := 3) (by decide) (by decide)) ?_
      refine ac_icmp_ge 49 14 dX8_momentNow_11 (by decide) rfl (fun _ => ?_) (fun c_11 => absurd (by rw [hn.1]; exact Int32.le_refl _) c_11)
      refine ac_iload_n 50 dX8_momentNow_49 rfl rfl ?_
      refine ac_iret dX8_momentNow_50 ⟨_, rfl, rfl⟩ ?_
      exact rv_mk rfl
    · intro k hk ih
      refine ac_iload_n 5 dX8_momentNow_4 rfl rfl ?_
      refine ac_aload_n 6 dX8_momentNow_5 rfl rfl ?_
      refine ac_getO 9 122 dX8_momentNow_6 rfl fl8_7 ob121 rfl ?_
      refine ac_iconst 10 3 dX8_momentNow_9 rfl (by decide) ?_
      refine ac_iald 11 dX8_momentNow_10 rfl ar122 (ix_nI (k := 3) (by decide) (by decide)) ?_
      refine ac_icmp_ge 49 14 dX8_momentNow_11 (by decide) rfl (fun c_11 => absurd c_11 (by rw [hn.1]; exact nI_ge hk (by omega))) (fun _ => ?_)
      refine ac_iload_n 15 dX8_momentNow_14 rfl rfl ?_
      refine ac_aload_n 16 dX8_momentNow_15 rfl rfl ?_
      refine ac_iload_n 17 dX8_momentNow_16 rfl rfl ?_
      refine ac_callV (μ' := m8_hangsNow) 20 dX8_momentNow_17 rfl lk8_122 m8_hangsNow_V ob121 (c8_hangsNow (j := (k)) (by omega)) rfl rfl (by decide) (Nat.le_of_ble_eq_true rfl) ?_
      refine ac_if_eq 40 23 dX8_momentNow_20 (by decide) rfl (fun c_20 => ?_) (fun c_20 => ?_)
      · have hq := bi_eq0.mp c_20
        refine ac_iconst 41 0 dX8_momentNow_40 rfl (by decide) ?_
        refine ac_iadd 42 dX8_momentNow_41 rfl ?_
        refine ac_istore_n 43 [some (Value.ref 121), some (Value.int ((moN (M 122) k) + 0)), some (Value.int (nI k))] dX8_momentNow_42 rfl rfl (Nat.le_of_ble_eq_true rfl) (by decide) rfl ?_
        refine ac_iinc 46 (nI (k + 1)) [some (Value.ref 121), some (Value.int ((moN (M 122) k) + 0)), some (Value.int (nI (k + 1)))] dX8_momentNow_43 rfl rfl (nI_1 _) rfl (by decide) rfl ?_
        refine ac_goto 4 dX8_momentNow_46 (by decide) ?_
        have e9 : moN (M 122) (k + 1) = ((moN (M 122) k) + 0) := by
          show _ + _ = _
          first | rw [if_pos (Classical.not_not.mp hq)] | rw [if_neg hq]
        rw [e9] at ih
        exact ih
      · have hq := bi_ne0.mp c_20
        refine ac_aload_n 24 dX8_momentNow_23 rfl rfl ?_
        refine ac_iload_n 25 dX8_momentNow_24 rfl rfl ?_
        refine ac_aload_n 26 dX8_momentNow_25 rfl rfl ?_
        refine ac_getO 29 122 dX8_momentNow_26 rfl fl8_7 ob121 rfl ?_
        refine ac_bipush 31 64 dX8_momentNow_29 rfl (by decide) ?_
        refine ac_iload_n 32 dX8_momentNow_31 rfl rfl ?_
        refine ac_iadd 33 dX8_momentNow_32 rfl ?_
        refine ac_iald 34 dX8_momentNow_33 rfl ar122 (ix_of (k := (64 + (k))) (by simp only [show (64 : Int32) = nI 64 from rfl, pk_mul, nI_add]) (by omega) (by decide)) ?_
        refine ac_callV (μ' := m8_leanOf) 37 dX8_momentNow_34 rfl lk8_155 m8_leanOf_V ob121 (c8_leanOf (by omega) _) rfl rfl (by decide) (Nat.le_of_ble_eq_true rfl) ?_
        refine ac_goto 41 dX8_momentNow_37 (by decide) ?_
        refine ac_iadd 42 dX8_momentNow_41 rfl ?_
        refine ac_istore_n 43 [some (Value.ref 121), some (Value.int ((moN (M 122) k) + (leN (M 122) (k) (M 122 (64 + (k)))))), some (Value.int (nI k))] dX8_momentNow_42 rfl rfl (Nat.le_of_ble_eq_true rfl) (by decide) rfl ?_
        refine ac_iinc 46 (nI (k + 1)) [some (Value.ref 121), some (Value.int ((moN (M 122) k) + (leN (M 122) (k) (M 122 (64 + (k)))))), some (Value.int (nI (k + 1)))] dX8_momentNow_43 rfl rfl (nI_1 _) rfl (by decide) rfl ?_
        refine ac_goto 4 dX8_momentNow_46 (by decide) ?_
        have e9 : moN (M 122) (k + 1) = ((moN (M 122) k) + (leN (M 122) (k) (M 122 (64 + (k))))) := by
          show _ + _ = _
          first | rw [if_pos (Classical.not_not.mp hq)] | rw [if_neg hq]
        rw [e9] at ih
        exact ih
  refine ac_iconst 3 0 dX8_momentNow_2 rfl (by decide) ?_
  refine ac_istore_n 4 [some (Value.ref 121), some (Value.int 0), some (Value.int 0)] dX8_momentNow_3 rfl rfl (Nat.le_of_ble_eq_true rfl) (by decide) rfl ?_
  exact hL
set_option maxRecDepth 20000 in
theorem c8_hanging {M : am_I} {V : am_J} {f : Nat → Option Nat} {np nd nh : Nat} (hn : NC (M 122) np nd nh) : CT m8_hanging 2 [Value.ref 121] M V f (RV (upN (M 122) np) M V f) := by
  have hnp := hn.2.1
  refine CT.of m8_hanging_V.1 _ (en_a_3 121) ?_
  refine ac_iconst 1 0 dX8_hanging_0 rfl (by decide) ?_
  refine ac_istore_n 2 [some (Value.ref 121), some (Value.int 0), none] dX8_hanging_1 rfl rfl (Nat.le_of_ble_eq_true rfl) (by decide) rfl ?_
  have hL : A0 m8_hanging 2 4 [some (Value.ref 121), some (Value.int (upN (M 122) 0)), some (Value.int (nI 0))] [] M V f (RV (upN (M 122) np) M V f) := by
    refine ac_down (n := np) (P := fun k => A0 m8_hanging 2 4 [some (Value.ref 121), some (Value.int (upN (M 122) k)), some (Value.int (nI k))] [] M V f (RV (upN (M 122) np) M V f)) ?_ ?_ 0 (Nat.zero_le _) 
    · refine ac_iload_n 5 dX8_hanging_4 rfl rfl ?_
      refine ac_aload_n 6 dX8_hanging_5 rfl rfl ?_
      refine ac_getO 9 122 dX8_hanging_6 rfl fl8_7 ob121 rfl ?_
      refine ac_iconst 10 3 dX8_hanging_9 rfl (by decide) ?_
      refine ac_iald 11 dX8_hanging_10 rfl ar122 (ix_nI (k := 3) (by decide) (by decide)) ?_
      refine ac_icmp_ge 36 14 dX8_hanging_11 (by decide) rfl (fun _ => ?_) (fun c_11 => absurd (by rw [hn.1]; exact Int32.le_refl _) c_11)
      refine ac_iload_n 37 dX8_hanging_36 rfl rfl ?_
      refine ac_iret dX8_hanging_37 ⟨_, rfl, rfl⟩ ?_
      exact rv_mk rfl
    · intro k hk ih
      refine ac_iload_n 5 dX8_hanging_4 rfl rfl ?_
      refine ac_aload_n 6 dX8_hanging_5 rfl rfl ?_
      refine ac_getO 9 122 dX8_hanging_6 rfl fl8_7 ob121 rfl ?_
      refine ac_iconst 10 3 dX8_hanging_9 rfl (by decide) ?_
      refine ac_iald 11 dX8_hanging_10 rfl ar122 (ix_nI (k := 3) (by decide) (by decide)) ?_
      refine ac_icmp_ge 36 14 dX8_hanging_11 (by decide) rfl (fun c_11 => absurd c_11 (by rw [hn.1]; exact nI_ge hk (by omega))) (fun _ => ?_)
      refine ac_iload_n 15 dX8_hanging_14 rfl rfl ?_
      refine ac_aload_n 16 dX8_hanging_15 rfl rfl ?_
      refine ac_iload_n 17 dX8_hanging_16 rfl rfl ?_
      refine ac_callV (μ' := m8_hangsNow) 20 dX8_hanging_17 rfl lk8_122 m8_hangsNow_V ob121 (c8_hangsNow (j := (k)) (by omega)) rfl rfl (by decide) (Nat.le_of_ble_eq_true rfl) ?_
      refine ac_if_eq 27 23 dX8_hanging_20 (by decide) rfl (fun c_20 => ?_) (fun c_20 => ?_)
      · have hq := bi_eq0.mp c_20
        refine ac_iconst 28 0 dX8_hanging_27 rfl (by decide) ?_
        refine ac_iadd 29 dX8_hanging_28 rfl ?_
        refine ac_istore_n 30 [some (Value.ref 121), some (Value.int ((upN (M 122) k) + 0)), some (Value.int (nI k))] dX8_hanging_29 rfl rfl (Nat.le_of_ble_eq_true rfl) (by decide) rfl ?_
        refine ac_iinc 33 (nI (k + 1)) [some (Value.ref 121), some (Value.int ((upN (M 122) k) + 0)), some (Value.int (nI (k + 1)))] dX8_hanging_30 rfl rfl (nI_1 _) rfl (by decide) rfl ?_
        refine ac_goto 4 dX8_hanging_33 (by decide) ?_
        have e9 : upN (M 122) (k + 1) = ((upN (M 122) k) + 0) := by
          show _ + _ = _
          first | rw [if_pos (Classical.not_not.mp hq)] | rw [if_neg hq]
        rw [e9] at ih
        exact ih
      · have hq := bi_ne0.mp c_20
        refine ac_iconst 24 1 dX8_hanging_23 rfl (by decide) ?_
        refine ac_goto 28 dX8_hanging_24 (by decide) ?_
        refine ac_iadd 29 dX8_hanging_28 rfl ?_
        refine ac_istore_n 30 [some (Value.ref 121), some (Value.int ((upN (M 122) k) + 1)), some (Value.int (nI k))] dX8_hanging_29 rfl rfl (Nat.le_of_ble_eq_true rfl) (by decide) rfl ?_
        refine ac_iinc 33 (nI (k + 1)) [some (Value.ref 121), some (Value.int ((upN (M 122) k) + 1)), some (Value.int (nI (k + 1)))] dX8_hanging_30 rfl rfl (nI_1 _) rfl (by decide) rfl ?_
        refine ac_goto 4 dX8_hanging_33 (by decide) ?_
        have e9 : upN (M 122) (k + 1) = ((upN (M 122) k) + 1) := by
          show _ + _ = _
          first | rw [if_pos (Classical.not_not.mp hq)] | rw [if_neg hq]
        rw [e9] at ih
        exact ih
  refine ac_iconst 3 0 dX8_hanging_2 rfl (by decide) ?_
  refine ac_istore_n 4 [some (Value.ref 121), some (Value.int 0), some (Value.int 0)] dX8_hanging_3 rfl rfl (Nat.le_of_ble_eq_true rfl) (by decide) rfl ?_
  exact hL
end
section
/-! The reference: its questions. -/
/-- by cases, whatever the case -/
noncomputable def cif {α : Type} (p : Prop) (a b : α) : α := @ite α p (Classical.propDecidable p) a b
theorem cif_t {α : Type} {p : Prop} {a b : α} (h : p) : cif p a b = a := if_pos h
theorem cif_f {α : Type} {p : Prop} {a b : α} (h : ¬ p) : cif p a b = b := if_neg h
theorem c8_wT {M : am_I} {V : am_J} {f : Nat → Option Nat} {v lo hi : Int32} (h : lo ≤ v ∧ v ≤ hi) : CT m8_within 1 [.int v, .int lo, .int hi] M V f (RV 1 M V f) := by
  have h1 := c8_within (M := M) (V := V) (f := f) v lo hi
  rw [bi_t h] at h1
  exact h1
theorem c8_wF {M : am_I} {V : am_J} {f : Nat → Option Nat} {v lo hi : Int32} (h : ¬ (lo ≤ v ∧ v ≤ hi)) : CT m8_within 1 [.int v, .int lo, .int hi] M V f (RV 0 M V f) := by
  have h1 := c8_within (M := M) (V := V) (f := f) v lo hi
  rw [bi_f h] at h1
  exact h1
theorem nI_pos0 {n : Nat} (h : n < 2 ^ 31) : (0 : Int32) ≤ nI n := nI_pos' h
theorem nI_lem {j n : Nat} (h : j < n) (hn : n < 2 ^ 31) : nI j ≤ nI n - 1 := by
  obtain ⟨m, rfl⟩ : ∃ m, n = m + 1 := ⟨n - 1, by omega⟩
  rw [nI_pred]
  exact nI_le (by omega) (by omega)
theorem nI_nlem {n : Nat} (hn : n < 2 ^ 31) {p : Int32} (h : ∀ j, j < n → p ≠ nI j) : ¬ (0 ≤ p ∧ p ≤ nI n - 1) := by
  rintro ⟨h1, h2⟩
  obtain ⟨i, hi, rfl⟩ := nI_of (Int32.not_lt.mpr h1)
  refine h i ?_ rfl
  cases n with
  | zero =>
    have h3 : nI 0 - 1 = (-1 : Int32) := by decide
    rw [h3] at h2
    have := Int32.le_iff_toInt_le.mp h2
    rw [nI_toInt hi] at this
    have e : (-1 : Int32).toInt = -1 := by decide
    omega
  | succ m =>
    rw [nI_pred] at h2
    have := (nI_leI hi (by omega)).mp h2
    omega
/-- p is a number of one of the first n things -/
def vI (p : Int32) (n : Nat) : Prop := ∃ j, j < n ∧ p = nI j
theorem c8_isPT {M : am_I} {V : am_J} {f : Nat → Option Nat} {np nd nh j : Nat} (hn : NC (M 122) np nd nh) (hj : j < np) : CT m8_isPicture 2 [.ref 121, .int (nI j)] M V f (RV 1 M V f) := by
  have h1 := c8_isPicture (M := M) (V := V) (f := f) (nI j)
  have hnp := hn.2.1
  rw [bi_t ⟨nI_pos0 (by omega), by rw [hn.1]; exact nI_lem hj (by omega)⟩] at h1
  exact h1
theorem c8_isPF {M : am_I} {V : am_J} {f : Nat → Option Nat} {np nd nh : Nat} (hn : NC (M 122) np nd nh) {p : Int32} (hp : ¬ vI p np) : CT m8_isPicture 2 [.ref 121, .int p] M V f (RV 0 M V f) := by
  have h1 := c8_isPicture (M := M) (V := V) (f := f) p
  have hnp := hn.2.1
  rw [bi_f (by rw [hn.1]; exact nI_nlem (by omega) (fun j hj e => hp ⟨j, hj, e⟩))] at h1
  exact h1
theorem c8_isHT {M : am_I} {V : am_J} {f : Nat → Option Nat} {np nd nh j : Nat} (hn : NC (M 122) np nd nh) (hj : j < nh) : CT m8_isHole 2 [.ref 121, .int (nI j)] M V f (RV 1 M V f) := by
  have h1 := c8_isHole (M := M) (V := V) (f := f) (nI j)
  have hnp := hn.2.2.2.2.2
  rw [bi_t ⟨nI_pos0 (by omega), by rw [hn.2.2.2.2.1]; exact nI_lem hj (by omega)⟩] at h1
  exact h1
theorem c8_isHF {M : am_I} {V : am_J} {f : Nat → Option Nat} {np nd nh : Nat} (hn : NC (M 122) np nd nh) {p : Int32} (hp : ¬ vI p nh) : CT m8_isHole 2 [.ref 121, .int p] M V f (RV 0 M V f) := by
  have h1 := c8_isHole (M := M) (V := V) (f := f) p
  have hnp := hn.2.2.2.2.2
  rw [bi_f (by rw [hn.2.2.2.2.1]; exact nI_nlem (by omega) (fun j hj e => hp ⟨j, hj, e⟩))] at h1
  exact h1
/-- what a question 0, 1 .. n - 1 is, or none of them -/
theorem wh_cases (x : Int32) (n : Nat) (hn : n < 2 ^ 31) : (∃ j, j < n ∧ x = nI j) ∨ (∀ j, j < n → x ≠ nI j) := (Classical.em (vI x n)).imp id (fun h j hj e => h ⟨j, hj, e⟩)
theorem wh_out {x : Int32} {n : Nat} (hn : n < 2 ^ 31) (h : ¬ vI x n) : x.toInt < 0 ∨ (n : Int) - 1 < x.toInt := by
  by_cases h0 : x < 0
  · exact Or.inl (by simpa using Int32.lt_iff_toInt_lt.mp h0)
  · obtain ⟨i, hi, rfl⟩ := nI_of h0
    refine Or.inr ?_
    rw [nI_toInt hi]
    have : ¬ i < n := fun q => h ⟨i, q, rfl⟩
    omega
theorem wh_not {x : Int32} {n m : Nat} (hn : n < 2 ^ 31) (h : ¬ vI x n) (hm : nI n - 1 = nI m) : ¬ (0 ≤ x ∧ x ≤ nI m) := by
  rw [← hm]
  exact nI_nlem hn (fun j hj e => h ⟨j, hj, e⟩)
set_option maxRecDepth 20000 in
theorem q8_picF {M : am_I} {V : am_J} {f : Nat → Option Nat} {np nd nh : Nat} (hn : NC (M 122) np nd nh) {p : Int32} (hp : ¬ vI p np) (what : Int32) : CT m8_picture 3 [Value.ref 121, Value.int p, Value.int what] M V f (RV (-1000000) M V f) := by
  refine CT.of m8_picture_V.1 _ (en_aii_3 121 p what) ?_
  refine ac_aload_n 1 dX8_picture_0 rfl rfl ?_
  refine ac_iload_n 2 dX8_picture_1 rfl rfl ?_
  refine ac_callV (μ' := m8_isPicture) 5 dX8_picture_2 rfl lk8_136 m8_isPicture_V ob121 (c8_isPF hn hp) rfl rfl (by decide) (Nat.le_of_ble_eq_true rfl) ?_
  refine ac_if_eq 17 8 dX8_picture_5 (by decide) rfl (fun _ => ?_) (fun c_5 => absurd (by decide) c_5)
  refine ac_ldc 19 dX8_picture_17 rfl kc8_154 ?_
  refine ac_iret dX8_picture_19 ⟨_, rfl, rfl⟩ ?_
  exact rv_mk rfl
set_option maxRecDepth 20000 in
theorem q8_picW {M : am_I} {V : am_J} {f : Nat → Option Nat} {np nd nh j : Nat} (hn : NC (M 122) np nd nh) (hj : j < np) {what : Int32} (hw : ¬ vI what 6) : CT m8_picture 3 [Value.ref 121, Value.int (nI j), Value.int what] M V f (RV (-1000000) M V f) := by
  have hnp := hn.2.1
  refine CT.of m8_picture_V.1 _ (en_aii_3 121 (nI j) what) ?_
  refine ac_aload_n 1 dX8_picture_0 rfl rfl ?_
  refine ac_iload_n 2 dX8_picture_1 rfl rfl ?_
  refine ac_callV (μ' := m8_isPicture) 5 dX8_picture_2 rfl lk8_136 m8_isPicture_V ob121 (c8_isPT hn hj) rfl rfl (by decide) (Nat.le_of_ble_eq_true rfl) ?_
  refine ac_if_eq 17 8 dX8_picture_5 (by decide) rfl (fun c_5 => absurd c_5 (by decide)) (fun _ => ?_)
  refine ac_iload_n 9 dX8_picture_8 rfl rfl ?_
  refine ac_iconst 10 0 dX8_picture_9 rfl (by decide) ?_
  refine ac_iconst 11 5 dX8_picture_10 rfl (by decide) ?_
  refine ac_callS (μ' := m8_within) 14 dX8_picture_11 rfl lk8_67 m8_within_S (c8_wF (wh_not (n := 6) (by decide) hw rfl)) rfl rfl (by decide) (Nat.le_of_ble_eq_true rfl) ?_
  refine ac_if_ne 20 17 dX8_picture_14 (by decide) rfl (fun c_14 => absurd (by decide) c_14) (fun _ => ?_)
  refine ac_ldc 19 dX8_picture_17 rfl kc8_154 ?_
  refine ac_iret dX8_picture_19 ⟨_, rfl, rfl⟩ ?_
  exact rv_mk rfl
set_option maxRecDepth 20000 in
theorem q8_pic0 {M : am_I} {V : am_J} {f : Nat → Option Nat} {np nd nh j : Nat} (hn : NC (M 122) np nd nh) (hj : j < np) : CT m8_picture 3 [Value.ref 121, Value.int (nI j), Value.int 0] M V f (RV (M 122 (4 + 4 * j + 0)) M V f) := by
  have hnp := hn.2.1
  refine CT.of m8_picture_V.1 _ (en_aii_3 121 (nI j) 0) ?_
  refine ac_aload_n 1 dX8_picture_0 rfl rfl ?_
  refine ac_iload_n 2 dX8_picture_1 rfl rfl ?_
  refine ac_callV (μ' := m8_isPicture) 5 dX8_picture_2 rfl lk8_136 m8_isPicture_V ob121 (c8_isPT hn hj) rfl rfl (by decide) (Nat.le_of_ble_eq_true rfl) ?_
  refine ac_if_eq 17 8 dX8_picture_5 (by decide) rfl (fun c_5 => absurd c_5 (by decide)) (fun _ => ?_)
  refine ac_iload_n 9 dX8_picture_8 rfl rfl ?_
  refine ac_iconst 10 0 dX8_picture_9 rfl (by decide) ?_
  refine ac_iconst 11 5 dX8_picture_10 rfl (by decide) ?_
  refine ac_callS (μ' := m8_within) 14 dX8_picture_11 rfl lk8_67 m8_within_S (c8_wT (by decide)) rfl rfl (by decide) (Nat.le_of_ble_eq_true rfl) ?_
  refine ac_if_ne 20 17 dX8_picture_14 (by decide) rfl (fun _ => ?_) (fun c_14 => absurd c_14 (by decide))
  refine ac_iload_n 21 dX8_picture_20 rfl rfl ?_
  refine ac_iconst 22 4 dX8_picture_21 rfl (by decide) ?_
  refine ac_icmp_ge 34 25 dX8_picture_22 (by decide) rfl (fun c_22 => absurd c_22 (by decide)) (fun _ => ?_)
  refine ac_aload_n 26 dX8_picture_25 rfl rfl ?_
  refine ac_iload_n 27 dX8_picture_26 rfl rfl ?_
  refine ac_iload_n 28 dX8_picture_27 rfl rfl ?_
  refine ac_callV (μ' := m8_ofPicture) 31 dX8_picture_28 rfl lk8_118 m8_ofPicture_V ob121 (c8_ofPicture (w := 0) (by omega) (by decide)) rfl rfl (by decide) (Nat.le_of_ble_eq_true rfl) ?_
  refine ac_goto 56 dX8_picture_31 (by decide) ?_
  refine ac_iret dX8_picture_56 ⟨_, rfl, rfl⟩ ?_
  exact rv_mk rfl
set_option maxRecDepth 20000 in
theorem q8_pic1 {M : am_I} {V : am_J} {f : Nat → Option Nat} {np nd nh j : Nat} (hn : NC (M 122) np nd nh) (hj : j < np) : CT m8_picture 3 [Value.ref 121, Value.int (nI j), Value.int 1] M V f (RV (M 122 (4 + 4 * j + 1)) M V f) := by
  have hnp := hn.2.1
  refine CT.of m8_picture_V.1 _ (en_aii_3 121 (nI j) 1) ?_
  refine ac_aload_n 1 dX8_picture_0 rfl rfl ?_
  refine ac_iload_n 2 dX8_picture_1 rfl rfl ?_
  refine ac_callV (μ' := m8_isPicture) 5 dX8_picture_2 rfl lk8_136 m8_isPicture_V ob121 (c8_isPT hn hj) rfl rfl (by decide) (Nat.le_of_ble_eq_true rfl) ?_
  refine ac_if_eq 17 8 dX8_picture_5 (by decide) rfl (fun c_5 => absurd c_5 (by decide)) (fun _ => ?_)
  refine ac_iload_n 9 dX8_picture_8 rfl rfl ?_
  refine ac_iconst 10 0 dX8_picture_9 rfl (by decide) ?_
  refine ac_iconst 11 5 dX8_picture_10 rfl (by decide) ?_
  refine ac_callS (μ' := m8_within) 14 dX8_picture_11 rfl lk8_67 m8_within_S (c8_wT (by decide)) rfl rfl (by decide) (Nat.le_of_ble_eq_true rfl) ?_
  refine ac_if_ne 20 17 dX8_picture_14 (by decide) rfl (fun _ => ?_) (fun c_14 => absurd c_14 (by decide))
  refine ac_iload_n 21 dX8_picture_20 rfl rfl ?_
  refine ac_iconst 22 4 dX8_picture_21 rfl (by decide) ?_
  refine ac_icmp_ge 34 25 dX8_picture_22 (by decide) rfl (fun c_22 => absurd c_22 (by decide)) (fun _ => ?_)
  refine ac_aload_n 26 dX8_picture_25 rfl rfl ?_
  refine ac_iload_n 27 dX8_picture_26 rfl rfl ?_
  refine ac_iload_n 28 dX8_picture_27 rfl rfl ?_
  refine ac_callV (μ' := m8_ofPicture) 31 dX8_picture_28 rfl lk8_118 m8_ofPicture_V ob121 (c8_ofPicture (w := 1) (by omega) (by decide)) rfl rfl (by decide) (Nat.le_of_ble_eq_true rfl) ?_
  refine ac_goto 56 dX8_picture_31 (by decide) ?_
  refine ac_iret dX8_picture_56 ⟨_, rfl, rfl⟩ ?_
  exact rv_mk rfl
set_option maxRecDepth 20000 in
theorem q8_pic2 {M : am_I} {V : am_J} {f : Nat → Option Nat} {np nd nh j : Nat} (hn : NC (M 122) np nd nh) (hj : j < np) : CT m8_picture 3 [Value.ref 121, Value.int (nI j), Value.int 2] M V f (RV (M 122 (4 + 4 * j + 2)) M V f) := by
  have hnp := hn.2.1
  refine CT.of m8_picture_V.1 _ (en_aii_3 121 (nI j) 2) ?_
  refine ac_aload_n 1 dX8_picture_0 rfl rfl ?_
  refine ac_iload_n 2 dX8_picture_1 rfl rfl ?_
  refine ac_callV (μ' := m8_isPicture) 5 dX8_picture_2 rfl lk8_136 m8_isPicture_V ob121 (c8_isPT hn hj) rfl rfl (by decide) (Nat.le_of_ble_eq_true rfl) ?_
  refine ac_if_eq 17 8 dX8_picture_5 (by decide) rfl (fun c_5 => absurd c_5 (by decide)) (fun _ => ?_)
  refine ac_iload_n 9 dX8_picture_8 rfl rfl ?_
  refine ac_iconst 10 0 dX8_picture_9 rfl (by decide) ?_
  refine ac_iconst 11 5 dX8_picture_10 rfl (by decide) ?_
  refine ac_callS (μ' := m8_within) 14 dX8_picture_11 rfl lk8_67 m8_within_S (c8_wT (by decide)) rfl rfl (by decide) (Nat.le_of_ble_eq_true rfl) ?_
  refine ac_if_ne 20 17 dX8_picture_14 (by decide) rfl (fun _ => ?_) (fun c_14 => absurd c_14 (by decide))
  refine ac_iload_n 21 dX8_picture_20 rfl rfl ?_
  refine ac_iconst 22 4 dX8_picture_21 rfl (by decide) ?_
  refine ac_icmp_ge 34 25 dX8_picture_22 (by decide) rfl (fun c_22 => absurd c_22 (by decide)) (fun _ => ?_)
  refine ac_aload_n 26 dX8_picture_25 rfl rfl ?_
  refine ac_iload_n 27 dX8_picture_26 rfl rfl ?_
  refine ac_iload_n 28 dX8_picture_27 rfl rfl ?_
  refine ac_callV (μ' := m8_ofPicture) 31 dX8_picture_28 rfl lk8_118 m8_ofPicture_V ob121 (c8_ofPicture (w := 2) (by omega) (by decide)) rfl rfl (by decide) (Nat.le_of_ble_eq_true rfl) ?_
  refine ac_goto 56 dX8_picture_31 (by decide) ?_
  refine ac_iret dX8_picture_56 ⟨_, rfl, rfl⟩ ?_
  exact rv_mk rfl
set_option maxRecDepth 20000 in
theorem q8_pic3 {M : am_I} {V : am_J} {f : Nat → Option Nat} {np nd nh j : Nat} (hn : NC (M 122) np nd nh) (hj : j < np) : CT m8_picture 3 [Value.ref 121, Value.int (nI j), Value.int 3] M V f (RV (M 122 (4 + 4 * j + 3)) M V f) := by
  have hnp := hn.2.1
  refine CT.of m8_picture_V.1 _ (en_aii_3 121 (nI j) 3) ?_
  refine ac_aload_n 1 dX8_picture_0 rfl rfl ?_
  refine ac_iload_n 2 dX8_picture_1 rfl rfl ?_
  refine ac_callV (μ' := m8_isPicture) 5 dX8_picture_2 rfl lk8_136 m8_isPicture_V ob121 (c8_isPT hn hj) rfl rfl (by decide) (Nat.le_of_ble_eq_true rfl) ?_
  refine ac_if_eq 17 8 dX8_picture_5 (by decide) rfl (fun c_5 => absurd c_5 (by decide)) (fun _ => ?_)
  refine ac_iload_n 9 dX8_picture_8 rfl rfl ?_
  refine ac_iconst 10 0 dX8_picture_9 rfl (by decide) ?_
  refine ac_iconst 11 5 dX8_picture_10 rfl (by decide) ?_
  refine ac_callS (μ' := m8_within) 14 dX8_picture_11 rfl lk8_67 m8_within_S (c8_wT (by decide)) rfl rfl (by decide) (Nat.le_of_ble_eq_true rfl) ?_
  refine ac_if_ne 20 17 dX8_picture_14 (by decide) rfl (fun _ => ?_) (fun c_14 => absurd c_14 (by decide))
  refine ac_iload_n 21 dX8_picture_20 rfl rfl ?_
  refine ac_iconst 22 4 dX8_picture_21 rfl (by decide) ?_
  refine ac_icmp_ge 34 25 dX8_picture_22 (by decide) rfl (fun c_22 => absurd c_22 (by decide)) (fun _ => ?_)
  refine ac_aload_n 26 dX8_picture_25 rfl rfl ?_
  refine ac_iload_n 27 dX8_picture_26 rfl rfl ?_
  refine ac_iload_n 28 dX8_picture_27 rfl rfl ?_
  refine ac_callV (μ' := m8_ofPicture) 31 dX8_picture_28 rfl lk8_118 m8_ofPicture_V ob121 (c8_ofPicture (w := 3) (by omega) (by decide)) rfl rfl (by decide) (Nat.le_of_ble_eq_true rfl) ?_
  refine ac_goto 56 dX8_picture_31 (by decide) ?_
  refine ac_iret dX8_picture_56 ⟨_, rfl, rfl⟩ ?_
  exact rv_mk rfl
set_option maxRecDepth 20000 in
theorem q8_pic4 {M : am_I} {V : am_J} {f : Nat → Option Nat} {np nd nh j : Nat} (hn : NC (M 122) np nd nh) (hj : j < np) : CT m8_picture 3 [Value.ref 121, Value.int (nI j), Value.int 4] M V f (RV (M 122 (64 + j)) M V f) := by
  have hnp := hn.2.1
  refine CT.of m8_picture_V.1 _ (en_aii_3 121 (nI j) 4) ?_
  refine ac_aload_n 1 dX8_picture_0 rfl rfl ?_
  refine ac_iload_n 2 dX8_picture_1 rfl rfl ?_
  refine ac_callV (μ' := m8_isPicture) 5 dX8_picture_2 rfl lk8_136 m8_isPicture_V ob121 (c8_isPT hn hj) rfl rfl (by decide) (Nat.le_of_ble_eq_true rfl) ?_
  refine ac_if_eq 17 8 dX8_picture_5 (by decide) rfl (fun c_5 => absurd c_5 (by decide)) (fun _ => ?_)
  refine ac_iload_n 9 dX8_picture_8 rfl rfl ?_
  refine ac_iconst 10 0 dX8_picture_9 rfl (by decide) ?_
  refine ac_iconst 11 5 dX8_picture_10 rfl (by decide) ?_
  refine ac_callS (μ' := m8_within) 14 dX8_picture_11 rfl lk8_67 m8_within_S (c8_wT (by decide)) rfl rfl (by decide) (Nat.le_of_ble_eq_true rfl) ?_
  refine ac_if_ne 20 17 dX8_picture_14 (by decide) rfl (fun _ => ?_) (fun c_14 => absurd c_14 (by decide))
  refine ac_iload_n 21 dX8_picture_20 rfl rfl ?_
  refine ac_iconst 22 4 dX8_picture_21 rfl (by decide) ?_
  refine ac_icmp_ge 34 25 dX8_picture_22 (by decide) rfl (fun _ => ?_) (fun c_22 => absurd (by decide) c_22)
  refine ac_iload_n 35 dX8_picture_34 rfl rfl ?_
  refine ac_iconst 36 4 dX8_picture_35 rfl (by decide) ?_
  refine ac_icmp_ne 51 39 dX8_picture_36 (by decide) rfl (fun c_36 => absurd (by decide) c_36) (fun _ => ?_)
  refine ac_aload_n 40 dX8_picture_39 rfl rfl ?_
  refine ac_getO 43 122 dX8_picture_40 rfl fl8_7 ob121 rfl ?_
  refine ac_bipush 45 64 dX8_picture_43 rfl (by decide) ?_
  refine ac_iload_n 46 dX8_picture_45 rfl rfl ?_
  refine ac_iadd 47 dX8_picture_46 rfl ?_
  refine ac_iald 48 dX8_picture_47 rfl ar122 (ix_of (k := (64 + (j))) (by simp only [show (64 : Int32) = nI 64 from rfl, pk_mul, nI_add]) (by omega) (by decide)) ?_
  refine ac_goto 56 dX8_picture_48 (by decide) ?_
  refine ac_iret dX8_picture_56 ⟨_, rfl, rfl⟩ ?_
  exact rv_mk rfl
set_option maxRecDepth 20000 in
theorem q8_pic5 {M : am_I} {V : am_J} {f : Nat → Option Nat} {np nd nh j : Nat} (hn : NC (M 122) np nd nh) (hj : j < np) : CT m8_picture 3 [Value.ref 121, Value.int (nI j), Value.int 5] M V f (RV (hkY (M 122) j) M V f) := by
  have hnp := hn.2.1
  refine CT.of m8_picture_V.1 _ (en_aii_3 121 (nI j) 5) ?_
  refine ac_aload_n 1 dX8_picture_0 rfl rfl ?_
  refine ac_iload_n 2 dX8_picture_1 rfl rfl ?_
  refine ac_callV (μ' := m8_isPicture) 5 dX8_picture_2 rfl lk8_136 m8_isPicture_V ob121 (c8_isPT hn hj) rfl rfl (by decide) (Nat.le_of_ble_eq_true rfl) ?_
  refine ac_if_eq 17 8 dX8_picture_5 (by decide) rfl (fun c_5 => absurd c_5 (by decide)) (fun _ => ?_)
  refine ac_iload_n 9 dX8_picture_8 rfl rfl ?_
  refine ac_iconst 10 0 dX8_picture_9 rfl (by decide) ?_
  refine ac_iconst 11 5 dX8_picture_10 rfl (by decide) ?_
  refine ac_callS (μ' := m8_within) 14 dX8_picture_11 rfl lk8_67 m8_within_S (c8_wT (by decide)) rfl rfl (by decide) (Nat.le_of_ble_eq_true rfl) ?_
  refine ac_if_ne 20 17 dX8_picture_14 (by decide) rfl (fun _ => ?_) (fun c_14 => absurd c_14 (by decide))
  refine ac_iload_n 21 dX8_picture_20 rfl rfl ?_
  refine ac_iconst 22 4 dX8_picture_21 rfl (by decide) ?_
  refine ac_icmp_ge 34 25 dX8_picture_22 (by decide) rfl (fun _ => ?_) (fun c_22 => absurd (by decide) c_22)
  refine ac_iload_n 35 dX8_picture_34 rfl rfl ?_
  refine ac_iconst 36 4 dX8_picture_35 rfl (by decide) ?_
  refine ac_icmp_ne 51 39 dX8_picture_36 (by decide) rfl (fun _ => ?_) (fun c_36 => absurd c_36 (by decide))
  refine ac_aload_n 52 dX8_picture_51 rfl rfl ?_
  refine ac_iload_n 53 dX8_picture_52 rfl rfl ?_
  refine ac_callV (μ' := m8_hookY) 56 dX8_picture_53 rfl lk8_129 m8_hookY_V ob121 (c8_hookY (by omega)) rfl rfl (by decide) (Nat.le_of_ble_eq_true rfl) ?_
  refine ac_iret dX8_picture_56 ⟨_, rfl, rfl⟩ ?_
  exact rv_mk rfl
set_option maxRecDepth 20000 in
theorem q8_holF {M : am_I} {V : am_J} {f : Nat → Option Nat} {np nd nh : Nat} (hn : NC (M 122) np nd nh) {p : Int32} (hp : ¬ vI p nh) (what : Int32) : CT m8_hole 4 [Value.ref 121, Value.int p, Value.int what] M V f (RV (-1000000) M V f) := by
  refine CT.of m8_hole_V.1 _ (en_aii_3 121 p what) ?_
  refine ac_aload_n 1 dX8_hole_0 rfl rfl ?_
  refine ac_iload_n 2 dX8_hole_1 rfl rfl ?_
  refine ac_callV (μ' := m8_isHole) 5 dX8_hole_2 rfl lk8_148 m8_isHole_V ob121 (c8_isHF hn hp) rfl rfl (by decide) (Nat.le_of_ble_eq_true rfl) ?_
  refine ac_if_eq 17 8 dX8_hole_5 (by decide) rfl (fun _ => ?_) (fun c_5 => absurd (by decide) c_5)
  refine ac_ldc 19 dX8_hole_17 rfl kc8_154 ?_
  refine ac_iret dX8_hole_19 ⟨_, rfl, rfl⟩ ?_
  exact rv_mk rfl
set_option maxRecDepth 20000 in
theorem q8_holW {M : am_I} {V : am_J} {f : Nat → Option Nat} {np nd nh j : Nat} (hn : NC (M 122) np nd nh) (hj : j < nh) {what : Int32} (hw : ¬ vI what 3) : CT m8_hole 4 [Value.ref 121, Value.int (nI j), Value.int what] M V f (RV (-1000000) M V f) := by
  have hnh := hn.2.2.2.2.2
  refine CT.of m8_hole_V.1 _ (en_aii_3 121 (nI j) what) ?_
  refine ac_aload_n 1 dX8_hole_0 rfl rfl ?_
  refine ac_iload_n 2 dX8_hole_1 rfl rfl ?_
  refine ac_callV (μ' := m8_isHole) 5 dX8_hole_2 rfl lk8_148 m8_isHole_V ob121 (c8_isHT hn hj) rfl rfl (by decide) (Nat.le_of_ble_eq_true rfl) ?_
  refine ac_if_eq 17 8 dX8_hole_5 (by decide) rfl (fun c_5 => absurd c_5 (by decide)) (fun _ => ?_)
  refine ac_iload_n 9 dX8_hole_8 rfl rfl ?_
  refine ac_iconst 10 0 dX8_hole_9 rfl (by decide) ?_
  refine ac_iconst 11 2 dX8_hole_10 rfl (by decide) ?_
  refine ac_callS (μ' := m8_within) 14 dX8_hole_11 rfl lk8_67 m8_within_S (c8_wF (wh_not (n := 3) (by decide) hw rfl)) rfl rfl (by decide) (Nat.le_of_ble_eq_true rfl) ?_
  refine ac_if_ne 20 17 dX8_hole_14 (by decide) rfl (fun c_14 => absurd (by decide) c_14) (fun _ => ?_)
  refine ac_ldc 19 dX8_hole_17 rfl kc8_154 ?_
  refine ac_iret dX8_hole_19 ⟨_, rfl, rfl⟩ ?_
  exact rv_mk rfl
set_option maxRecDepth 20000 in
theorem q8_hol0 {M : am_I} {V : am_J} {f : Nat → Option Nat} {np nd nh j : Nat} (hn : NC (M 122) np nd nh) (hj : j < nh) : CT m8_hole 4 [Value.ref 121, Value.int (nI j), Value.int 0] M V f (RV (M 122 (32 + 2 * j + 0)) M V f) := by
  have hnh := hn.2.2.2.2.2
  refine CT.of m8_hole_V.1 _ (en_aii_3 121 (nI j) 0) ?_
  refine ac_aload_n 1 dX8_hole_0 rfl rfl ?_
  refine ac_iload_n 2 dX8_hole_1 rfl rfl ?_
  refine ac_callV (μ' := m8_isHole) 5 dX8_hole_2 rfl lk8_148 m8_isHole_V ob121 (c8_isHT hn hj) rfl rfl (by decide) (Nat.le_of_ble_eq_true rfl) ?_
  refine ac_if_eq 17 8 dX8_hole_5 (by decide) rfl (fun c_5 => absurd c_5 (by decide)) (fun _ => ?_)
  refine ac_iload_n 9 dX8_hole_8 rfl rfl ?_
  refine ac_iconst 10 0 dX8_hole_9 rfl (by decide) ?_
  refine ac_iconst 11 2 dX8_hole_10 rfl (by decide) ?_
  refine ac_callS (μ' := m8_within) 14 dX8_hole_11 rfl lk8_67 m8_within_S (c8_wT (by decide)) rfl rfl (by decide) (Nat.le_of_ble_eq_true rfl) ?_
  refine ac_if_ne 20 17 dX8_hole_14 (by decide) rfl (fun _ => ?_) (fun c_14 => absurd c_14 (by decide))
  refine ac_iload_n 21 dX8_hole_20 rfl rfl ?_
  refine ac_iconst 22 2 dX8_hole_21 rfl (by decide) ?_
  refine ac_icmp_ge 41 25 dX8_hole_22 (by decide) rfl (fun c_22 => absurd c_22 (by decide)) (fun _ => ?_)
  refine ac_aload_n 26 dX8_hole_25 rfl rfl ?_
  refine ac_getO 29 122 dX8_hole_26 rfl fl8_7 ob121 rfl ?_
  refine ac_bipush 31 32 dX8_hole_29 rfl (by decide) ?_
  refine ac_iconst 32 2 dX8_hole_31 rfl (by decide) ?_
  refine ac_iload_n 33 dX8_hole_32 rfl rfl ?_
  refine ac_imul 34 dX8_hole_33 rfl ?_
  refine ac_iadd 35 dX8_hole_34 rfl ?_
  refine ac_iload_n 36 dX8_hole_35 rfl rfl ?_
  refine ac_iadd 37 dX8_hole_36 rfl ?_
  refine ac_iald 38 dX8_hole_37 rfl ar122 (ix_of (k := ((32 + (2 * (j))) + 0)) (by simp only [show (0 : Int32) = nI 0 from rfl, show (2 : Int32) = nI 2 from rfl, show (32 : Int32) = nI 32 from rfl, pk_mul, nI_add]) (by omega) (by decide)) ?_
  refine ac_goto 46 dX8_hole_38 (by decide) ?_
  refine ac_iret dX8_hole_46 ⟨_, rfl, rfl⟩ ?_
  exact rv_mk rfl
set_option maxRecDepth 20000 in
theorem q8_hol1 {M : am_I} {V : am_J} {f : Nat → Option Nat} {np nd nh j : Nat} (hn : NC (M 122) np nd nh) (hj : j < nh) : CT m8_hole 4 [Value.ref 121, Value.int (nI j), Value.int 1] M V f (RV (M 122 (32 + 2 * j + 1)) M V f) := by
  have hnh := hn.2.2.2.2.2
  refine CT.of m8_hole_V.1 _ (en_aii_3 121 (nI j) 1) ?_
  refine ac_aload_n 1 dX8_hole_0 rfl rfl ?_
  refine ac_iload_n 2 dX8_hole_1 rfl rfl ?_
  refine ac_callV (μ' := m8_isHole) 5 dX8_hole_2 rfl lk8_148 m8_isHole_V ob121 (c8_isHT hn hj) rfl rfl (by decide) (Nat.le_of_ble_eq_true rfl) ?_
  refine ac_if_eq 17 8 dX8_hole_5 (by decide) rfl (fun c_5 => absurd c_5 (by decide)) (fun _ => ?_)
  refine ac_iload_n 9 dX8_hole_8 rfl rfl ?_
  refine ac_iconst 10 0 dX8_hole_9 rfl (by decide) ?_
  refine ac_iconst 11 2 dX8_hole_10 rfl (by decide) ?_
  refine ac_callS (μ' := m8_within) 14 dX8_hole_11 rfl lk8_67 m8_within_S (c8_wT (by decide)) rfl rfl (by decide) (Nat.le_of_ble_eq_true rfl) ?_
  refine ac_if_ne 20 17 dX8_hole_14 (by decide) rfl (fun _ => ?_) (fun c_14 => absurd c_14 (by decide))
  refine ac_iload_n 21 dX8_hole_20 rfl rfl ?_
  refine ac_iconst 22 2 dX8_hole_21 rfl (by decide) ?_
  refine ac_icmp_ge 41 25 dX8_hole_22 (by decide) rfl (fun c_22 => absurd c_22 (by decide)) (fun _ => ?_)
  refine ac_aload_n 26 dX8_hole_25 rfl rfl ?_
  refine ac_getO 29 122 dX8_hole_26 rfl fl8_7 ob121 rfl ?_
  refine ac_bipush 31 32 dX8_hole_29 rfl (by decide) ?_
  refine ac_iconst 32 2 dX8_hole_31 rfl (by decide) ?_
  refine ac_iload_n 33 dX8_hole_32 rfl rfl ?_
  refine ac_imul 34 dX8_hole_33 rfl ?_
  refine ac_iadd 35 dX8_hole_34 rfl ?_
  refine ac_iload_n 36 dX8_hole_35 rfl rfl ?_
  refine ac_iadd 37 dX8_hole_36 rfl ?_
  refine ac_iald 38 dX8_hole_37 rfl ar122 (ix_of (k := ((32 + (2 * (j))) + 1)) (by simp only [show (1 : Int32) = nI 1 from rfl, show (2 : Int32) = nI 2 from rfl, show (32 : Int32) = nI 32 from rfl, pk_mul, nI_add]) (by omega) (by decide)) ?_
  refine ac_goto 46 dX8_hole_38 (by decide) ?_
  refine ac_iret dX8_hole_46 ⟨_, rfl, rfl⟩ ?_
  exact rv_mk rfl
set_option maxRecDepth 20000 in
theorem q8_hol2 {M : am_I} {V : am_J} {f : Nat → Option Nat} {np nd nh j : Nat} (hn : NC (M 122) np nd nh) (hj : j < nh) : CT m8_hole 4 [Value.ref 121, Value.int (nI j), Value.int 2] M V f (RV (laN (onN (M 122) j) np) M V f) := by
  have hnh := hn.2.2.2.2.2
  refine CT.of m8_hole_V.1 _ (en_aii_3 121 (nI j) 2) ?_
  refine ac_aload_n 1 dX8_hole_0 rfl rfl ?_
  refine ac_iload_n 2 dX8_hole_1 rfl rfl ?_
  refine ac_callV (μ' := m8_isHole) 5 dX8_hole_2 rfl lk8_148 m8_isHole_V ob121 (c8_isHT hn hj) rfl rfl (by decide) (Nat.le_of_ble_eq_true rfl) ?_
  refine ac_if_eq 17 8 dX8_hole_5 (by decide) rfl (fun c_5 => absurd c_5 (by decide)) (fun _ => ?_)
  refine ac_iload_n 9 dX8_hole_8 rfl rfl ?_
  refine ac_iconst 10 0 dX8_hole_9 rfl (by decide) ?_
  refine ac_iconst 11 2 dX8_hole_10 rfl (by decide) ?_
  refine ac_callS (μ' := m8_within) 14 dX8_hole_11 rfl lk8_67 m8_within_S (c8_wT (by decide)) rfl rfl (by decide) (Nat.le_of_ble_eq_true rfl) ?_
  refine ac_if_ne 20 17 dX8_hole_14 (by decide) rfl (fun _ => ?_) (fun c_14 => absurd c_14 (by decide))
  refine ac_iload_n 21 dX8_hole_20 rfl rfl ?_
  refine ac_iconst 22 2 dX8_hole_21 rfl (by decide) ?_
  refine ac_icmp_ge 41 25 dX8_hole_22 (by decide) rfl (fun _ => ?_) (fun c_22 => absurd (by decide) c_22)
  refine ac_aload_n 42 dX8_hole_41 rfl rfl ?_
  refine ac_iload_n 43 dX8_hole_42 rfl rfl ?_
  refine ac_callV (μ' := m8_hangingAt) 46 dX8_hole_43 rfl lk8_151 m8_hangingAt_V ob121 (c8_hangingAt hn (by omega)) rfl rfl (by decide) (Nat.le_of_ble_eq_true rfl) ?_
  refine ac_iret dX8_hole_46 ⟨_, rfl, rfl⟩ ?_
  exact rv_mk rfl
set_option maxRecDepth 20000 in
theorem q8_dooF {M : am_I} {V : am_J} {f : Nat → Option Nat} {np nd nh : Nat} (hn : NC (M 122) np nd nh) {p : Int32} (hp : ¬ vI p nd) (what : Int32) : CT m8_door 2 [Value.ref 121, Value.int p, Value.int what] M V f (RV (-1) M V f) := by
  have hnd := hn.2.2.2.1
  refine CT.of m8_door_V.1 _ (en_aii_3 121 p what) ?_
  refine ac_iload_n 1 dX8_door_0 rfl rfl ?_
  refine ac_iconst 2 0 dX8_door_1 rfl (by decide) ?_
  refine ac_aload_n 3 dX8_door_2 rfl rfl ?_
  refine ac_getO 6 122 dX8_door_3 rfl fl8_7 ob121 rfl ?_
  refine ac_bipush 8 24 dX8_door_6 rfl (by decide) ?_
  refine ac_iald 9 dX8_door_8 rfl ar122 (ix_nI (k := 24) (by decide) (by decide)) ?_
  refine ac_iconst 10 1 dX8_door_9 rfl (by decide) ?_
  refine ac_isub 11 dX8_door_10 rfl ?_
  refine ac_callS (μ' := m8_within) 14 dX8_door_11 rfl lk8_67 m8_within_S (c8_wF (by rw [hn.2.2.1]; exact nI_nlem (by omega) (fun j hj e => hp ⟨j, hj, e⟩))) rfl rfl (by decide) (Nat.le_of_ble_eq_true rfl) ?_
  refine ac_if_eq 42 17 dX8_door_14 (by decide) rfl (fun _ => ?_) (fun c_14 => absurd (by decide) c_14)
  refine ac_iconst 43 (-1) dX8_door_42 rfl (by decide) ?_
  refine ac_iret dX8_door_43 ⟨_, rfl, rfl⟩ ?_
  exact rv_mk rfl
set_option maxRecDepth 20000 in
theorem q8_dooW {M : am_I} {V : am_J} {f : Nat → Option Nat} {np nd nh j : Nat} (hn : NC (M 122) np nd nh) (hj : j < nd) {what : Int32} (hw : ¬ vI what 2) : CT m8_door 2 [Value.ref 121, Value.int (nI j), Value.int what] M V f (RV (-1) M V f) := by
  have hnd := hn.2.2.2.1
  refine CT.of m8_door_V.1 _ (en_aii_3 121 (nI j) what) ?_
  refine ac_iload_n 1 dX8_door_0 rfl rfl ?_
  refine ac_iconst 2 0 dX8_door_1 rfl (by decide) ?_
  refine ac_aload_n 3 dX8_door_2 rfl rfl ?_
  refine ac_getO 6 122 dX8_door_3 rfl fl8_7 ob121 rfl ?_
  refine ac_bipush 8 24 dX8_door_6 rfl (by decide) ?_
  refine ac_iald 9 dX8_door_8 rfl ar122 (ix_nI (k := 24) (by decide) (by decide)) ?_
  refine ac_iconst 10 1 dX8_door_9 rfl (by decide) ?_
  refine ac_isub 11 dX8_door_10 rfl ?_
  refine ac_callS (μ' := m8_within) 14 dX8_door_11 rfl lk8_67 m8_within_S (c8_wT ⟨nI_pos0 (by omega), by rw [hn.2.2.1]; exact nI_lem hj (by omega)⟩) rfl rfl (by decide) (Nat.le_of_ble_eq_true rfl) ?_
  refine ac_if_eq 42 17 dX8_door_14 (by decide) rfl (fun c_14 => absurd c_14 (by decide)) (fun _ => ?_)
  refine ac_iload_n 18 dX8_door_17 rfl rfl ?_
  refine ac_iconst 19 0 dX8_door_18 rfl (by decide) ?_
  refine ac_iconst 20 1 dX8_door_19 rfl (by decide) ?_
  refine ac_callS (μ' := m8_within) 23 dX8_door_20 rfl lk8_67 m8_within_S (c8_wF (wh_not (n := 2) (by decide) hw rfl)) rfl rfl (by decide) (Nat.le_of_ble_eq_true rfl) ?_
  refine ac_if_eq 42 26 dX8_door_23 (by decide) rfl (fun _ => ?_) (fun c_23 => absurd (by decide) c_23)
  refine ac_iconst 43 (-1) dX8_door_42 rfl (by decide) ?_
  refine ac_iret dX8_door_43 ⟨_, rfl, rfl⟩ ?_
  exact rv_mk rfl
set_option maxRecDepth 20000 in
theorem q8_doo0 {M : am_I} {V : am_J} {f : Nat → Option Nat} {np nd nh j : Nat} (hn : NC (M 122) np nd nh) (hj : j < nd) : CT m8_door 2 [Value.ref 121, Value.int (nI j), Value.int 0] M V f (RV (M 122 (25 + 2 * j + 0)) M V f) := by
  have hnd := hn.2.2.2.1
  refine CT.of m8_door_V.1 _ (en_aii_3 121 (nI j) 0) ?_
  refine ac_iload_n 1 dX8_door_0 rfl rfl ?_
  refine ac_iconst 2 0 dX8_door_1 rfl (by decide) ?_
  refine ac_aload_n 3 dX8_door_2 rfl rfl ?_
  refine ac_getO 6 122 dX8_door_3 rfl fl8_7 ob121 rfl ?_
  refine ac_bipush 8 24 dX8_door_6 rfl (by decide) ?_
  refine ac_iald 9 dX8_door_8 rfl ar122 (ix_nI (k := 24) (by decide) (by decide)) ?_
  refine ac_iconst 10 1 dX8_door_9 rfl (by decide) ?_
  refine ac_isub 11 dX8_door_10 rfl ?_
  refine ac_callS (μ' := m8_within) 14 dX8_door_11 rfl lk8_67 m8_within_S (c8_wT ⟨nI_pos0 (by omega), by rw [hn.2.2.1]; exact nI_lem hj (by omega)⟩) rfl rfl (by decide) (Nat.le_of_ble_eq_true rfl) ?_
  refine ac_if_eq 42 17 dX8_door_14 (by decide) rfl (fun c_14 => absurd c_14 (by decide)) (fun _ => ?_)
  refine ac_iload_n 18 dX8_door_17 rfl rfl ?_
  refine ac_iconst 19 0 dX8_door_18 rfl (by decide) ?_
  refine ac_iconst 20 1 dX8_door_19 rfl (by decide) ?_
  refine ac_callS (μ' := m8_within) 23 dX8_door_20 rfl lk8_67 m8_within_S (c8_wT (by decide)) rfl rfl (by decide) (Nat.le_of_ble_eq_true rfl) ?_
  refine ac_if_eq 42 26 dX8_door_23 (by decide) rfl (fun c_23 => absurd c_23 (by decide)) (fun _ => ?_)
  refine ac_aload_n 27 dX8_door_26 rfl rfl ?_
  refine ac_getO 30 122 dX8_door_27 rfl fl8_7 ob121 rfl ?_
  refine ac_bipush 32 25 dX8_door_30 rfl (by decide) ?_
  refine ac_iconst 33 2 dX8_door_32 rfl (by decide) ?_
  refine ac_iload_n 34 dX8_door_33 rfl rfl ?_
  refine ac_imul 35 dX8_door_34 rfl ?_
  refine ac_iadd 36 dX8_door_35 rfl ?_
  refine ac_iload_n 37 dX8_door_36 rfl rfl ?_
  refine ac_iadd 38 dX8_door_37 rfl ?_
  refine ac_iald 39 dX8_door_38 rfl ar122 (ix_of (k := ((25 + (2 * (j))) + 0)) (by simp only [show (0 : Int32) = nI 0 from rfl, show (2 : Int32) = nI 2 from rfl, show (25 : Int32) = nI 25 from rfl, pk_mul, nI_add]) (by omega) (by decide)) ?_
  refine ac_goto 43 dX8_door_39 (by decide) ?_
  refine ac_iret dX8_door_43 ⟨_, rfl, rfl⟩ ?_
  exact rv_mk rfl
set_option maxRecDepth 20000 in
theorem q8_doo1 {M : am_I} {V : am_J} {f : Nat → Option Nat} {np nd nh j : Nat} (hn : NC (M 122) np nd nh) (hj : j < nd) : CT m8_door 2 [Value.ref 121, Value.int (nI j), Value.int 1] M V f (RV (M 122 (25 + 2 * j + 1)) M V f) := by
  have hnd := hn.2.2.2.1
  refine CT.of m8_door_V.1 _ (en_aii_3 121 (nI j) 1) ?_
  refine ac_iload_n 1 dX8_door_0 rfl rfl ?_
  refine ac_iconst 2 0 dX8_door_1 rfl (by decide) ?_
  refine ac_aload_n 3 dX8_door_2 rfl rfl ?_
  refine ac_getO 6 122 dX8_door_3 rfl fl8_7 ob121 rfl ?_
  refine ac_bipush 8 24 dX8_door_6 rfl (by decide) ?_
  refine ac_iald 9 dX8_door_8 rfl ar122 (ix_nI (k := 24) (by decide) (by decide)) ?_
  refine ac_iconst 10 1 dX8_door_9 rfl (by decide) ?_
  refine ac_isub 11 dX8_door_10 rfl ?_
  refine ac_callS (μ' := m8_within) 14 dX8_door_11 rfl lk8_67 m8_within_S (c8_wT ⟨nI_pos0 (by omega), by rw [hn.2.2.1]; exact nI_lem hj (by omega)⟩) rfl rfl (by decide) (Nat.le_of_ble_eq_true rfl) ?_
  refine ac_if_eq 42 17 dX8_door_14 (by decide) rfl (fun c_14 => absurd c_14 (by decide)) (fun _ => ?_)
  refine ac_iload_n 18 dX8_door_17 rfl rfl ?_
  refine ac_iconst 19 0 dX8_door_18 rfl (by decide) ?_
  refine ac_iconst 20 1 dX8_door_19 rfl (by decide) ?_
  refine ac_callS (μ' := m8_within) 23 dX8_door_20 rfl lk8_67 m8_within_S (c8_wT (by decide)) rfl rfl (by decide) (Nat.le_of_ble_eq_true rfl) ?_
  refine ac_if_eq 42 26 dX8_door_23 (by decide) rfl (fun c_23 => absurd c_23 (by decide)) (fun _ => ?_)
  refine ac_aload_n 27 dX8_door_26 rfl rfl ?_
  refine ac_getO 30 122 dX8_door_27 rfl fl8_7 ob121 rfl ?_
  refine ac_bipush 32 25 dX8_door_30 rfl (by decide) ?_
  refine ac_iconst 33 2 dX8_door_32 rfl (by decide) ?_
  refine ac_iload_n 34 dX8_door_33 rfl rfl ?_
  refine ac_imul 35 dX8_door_34 rfl ?_
  refine ac_iadd 36 dX8_door_35 rfl ?_
  refine ac_iload_n 37 dX8_door_36 rfl rfl ?_
  refine ac_iadd 38 dX8_door_37 rfl ?_
  refine ac_iald 39 dX8_door_38 rfl ar122 (ix_of (k := ((25 + (2 * (j))) + 1)) (by simp only [show (1 : Int32) = nI 1 from rfl, show (2 : Int32) = nI 2 from rfl, show (25 : Int32) = nI 25 from rfl, pk_mul, nI_add]) (by omega) (by decide)) ?_
  refine ac_goto 43 dX8_door_39 (by decide) ?_
  refine ac_iret dX8_door_43 ⟨_, rfl, rfl⟩ ?_
  exact rv_mk rfl
set_option maxRecDepth 20000 in
theorem q8_mom0 {M : am_I} {V : am_J} {f : Nat → Option Nat} {np nd nh : Nat} (hn : NC (M 122) np nd nh) : CT m8_moment 5 [Value.ref 121, Value.int 0] M V f (RV (moN (M 122) np) M V f) := by
  refine CT.of m8_moment_V.1 _ (en_ai_2 121 0) ?_
  refine ac_iload_n 1 dX8_moment_0 rfl rfl ?_
  refine ac_if_ne 11 4 dX8_moment_1 (by decide) rfl (fun c_1 => absurd (by decide) c_1) (fun _ => ?_)
  refine ac_aload_n 5 dX8_moment_4 rfl rfl ?_
  refine ac_callV (μ' := m8_momentNow) 8 dX8_moment_5 rfl lk8_158 m8_momentNow_V ob121 (c8_momentNow hn) rfl rfl (by decide) (Nat.le_of_ble_eq_true rfl) ?_
  refine ac_goto 28 dX8_moment_8 (by decide) ?_
  refine ac_iret dX8_moment_28 ⟨_, rfl, rfl⟩ ?_
  exact rv_mk rfl
set_option maxRecDepth 20000 in
theorem q8_mom1 {M : am_I} {V : am_J} {f : Nat → Option Nat} {np nd nh : Nat} (hn : NC (M 122) np nd nh) : CT m8_moment 5 [Value.ref 121, Value.int 1] M V f (RV (if moN (M 122) np < 0 then -moN (M 122) np else moN (M 122) np) M V f) := by
  refine CT.of m8_moment_V.1 _ (en_ai_2 121 1) ?_
  refine ac_iload_n 1 dX8_moment_0 rfl rfl ?_
  refine ac_if_ne 11 4 dX8_moment_1 (by decide) rfl (fun _ => ?_) (fun c_1 => absurd c_1 (by decide))
  refine ac_iload_n 12 dX8_moment_11 rfl rfl ?_
  refine ac_iconst 13 1 dX8_moment_12 rfl (by decide) ?_
  refine ac_icmp_ne 26 16 dX8_moment_13 (by decide) rfl (fun c_13 => absurd (by decide) c_13) (fun _ => ?_)
  refine ac_aload_n 17 dX8_moment_16 rfl rfl ?_
  refine ac_callV (μ' := m8_momentNow) 20 dX8_moment_17 rfl lk8_158 m8_momentNow_V ob121 (c8_momentNow hn) rfl rfl (by decide) (Nat.le_of_ble_eq_true rfl) ?_
  refine ac_callS (μ' := m8_off) 23 dX8_moment_20 rfl lk8_161 m8_off_S (c8_off _) rfl rfl (by decide) (Nat.le_of_ble_eq_true rfl) ?_
  refine ac_goto 28 dX8_moment_23 (by decide) ?_
  refine ac_iret dX8_moment_28 ⟨_, rfl, rfl⟩ ?_
  exact rv_mk rfl
set_option maxRecDepth 20000 in
theorem q8_momW {M : am_I} {V : am_J} {f : Nat → Option Nat} {np nd nh : Nat} (hn : NC (M 122) np nd nh) {what : Int32} (hw : ¬ vI what 2) : CT m8_moment 5 [Value.ref 121, Value.int what] M V f (RV (-1000000) M V f) := by
  refine CT.of m8_moment_V.1 _ (en_ai_2 121 what) ?_
  refine ac_iload_n 1 dX8_moment_0 rfl rfl ?_
  refine ac_if_ne 11 4 dX8_moment_1 (by decide) rfl (fun _ => ?_) (fun c_1 => absurd c_1 (fun e => hw ⟨0, by decide, e⟩))
  refine ac_iload_n 12 dX8_moment_11 rfl rfl ?_
  refine ac_iconst 13 1 dX8_moment_12 rfl (by decide) ?_
  refine ac_icmp_ne 26 16 dX8_moment_13 (by decide) rfl (fun _ => ?_) (fun c_13 => absurd c_13 (fun e => hw ⟨1, by decide, e⟩))
  refine ac_ldc 28 dX8_moment_26 rfl kc8_154 ?_
  refine ac_iret dX8_moment_28 ⟨_, rfl, rfl⟩ ?_
  exact rv_mk rfl
set_option maxRecDepth 20000 in
theorem q8_cnt0 {M : am_I} {V : am_J} {f : Nat → Option Nat} {np nd nh : Nat} (hn : NC (M 122) np nd nh) : CT m8_count 3 [Value.ref 121, Value.int 0] M V f (RV (M 122 0) M V f) := by
  refine CT.of m8_count_V.1 _ (en_ai_2 121 0) ?_
  refine ac_iload_n 1 dX8_count_0 rfl rfl ?_
  refine ac_tableIn 56 0 55 dX8_count_1 (by decide) (by decide) (by decide) (by decide) ?_
  refine ac_aload_n 57 dX8_count_56 rfl rfl ?_
  refine ac_getO 60 122 dX8_count_57 rfl fl8_7 ob121 rfl ?_
  refine ac_iconst 61 0 dX8_count_60 rfl (by decide) ?_
  refine ac_iald 62 dX8_count_61 rfl ar122 (ix_nI (k := 0) (by decide) (by decide)) ?_
  refine ac_iret dX8_count_62 ⟨_, rfl, rfl⟩ ?_
  exact rv_mk rfl
set_option maxRecDepth 20000 in
theorem q8_cnt1 {M : am_I} {V : am_J} {f : Nat → Option Nat} {np nd nh : Nat} (hn : NC (M 122) np nd nh) : CT m8_count 3 [Value.ref 121, Value.int 1] M V f (RV (M 122 1) M V f) := by
  refine CT.of m8_count_V.1 _ (en_ai_2 121 1) ?_
  refine ac_iload_n 1 dX8_count_0 rfl rfl ?_
  refine ac_tableIn 63 1 62 dX8_count_1 (by decide) (by decide) (by decide) (by decide) ?_
  refine ac_aload_n 64 dX8_count_63 rfl rfl ?_
  refine ac_getO 67 122 dX8_count_64 rfl fl8_7 ob121 rfl ?_
  refine ac_iconst 68 1 dX8_count_67 rfl (by decide) ?_
  refine ac_iald 69 dX8_count_68 rfl ar122 (ix_nI (k := 1) (by decide) (by decide)) ?_
  refine ac_iret dX8_count_69 ⟨_, rfl, rfl⟩ ?_
  exact rv_mk rfl
set_option maxRecDepth 20000 in
theorem q8_cnt2 {M : am_I} {V : am_J} {f : Nat → Option Nat} {np nd nh : Nat} (hn : NC (M 122) np nd nh) : CT m8_count 3 [Value.ref 121, Value.int 2] M V f (RV (M 122 2) M V f) := by
  refine CT.of m8_count_V.1 _ (en_ai_2 121 2) ?_
  refine ac_iload_n 1 dX8_count_0 rfl rfl ?_
  refine ac_tableIn 70 2 69 dX8_count_1 (by decide) (by decide) (by decide) (by decide) ?_
  refine ac_aload_n 71 dX8_count_70 rfl rfl ?_
  refine ac_getO 74 122 dX8_count_71 rfl fl8_7 ob121 rfl ?_
  refine ac_iconst 75 2 dX8_count_74 rfl (by decide) ?_
  refine ac_iald 76 dX8_count_75 rfl ar122 (ix_nI (k := 2) (by decide) (by decide)) ?_
  refine ac_iret dX8_count_76 ⟨_, rfl, rfl⟩ ?_
  exact rv_mk rfl
set_option maxRecDepth 20000 in
theorem q8_cnt3 {M : am_I} {V : am_J} {f : Nat → Option Nat} {np nd nh : Nat} (hn : NC (M 122) np nd nh) : CT m8_count 3 [Value.ref 121, Value.int 3] M V f (RV (M 122 3) M V f) := by
  refine CT.of m8_count_V.1 _ (en_ai_2 121 3) ?_
  refine ac_iload_n 1 dX8_count_0 rfl rfl ?_
  refine ac_tableIn 77 3 76 dX8_count_1 (by decide) (by decide) (by decide) (by decide) ?_
  refine ac_aload_n 78 dX8_count_77 rfl rfl ?_
  refine ac_getO 81 122 dX8_count_78 rfl fl8_7 ob121 rfl ?_
  refine ac_iconst 82 3 dX8_count_81 rfl (by decide) ?_
  refine ac_iald 83 dX8_count_82 rfl ar122 (ix_nI (k := 3) (by decide) (by decide)) ?_
  refine ac_iret dX8_count_83 ⟨_, rfl, rfl⟩ ?_
  exact rv_mk rfl
set_option maxRecDepth 20000 in
theorem q8_cnt4 {M : am_I} {V : am_J} {f : Nat → Option Nat} {np nd nh : Nat} (hn : NC (M 122) np nd nh) : CT m8_count 3 [Value.ref 121, Value.int 4] M V f (RV (M 122 24) M V f) := by
  refine CT.of m8_count_V.1 _ (en_ai_2 121 4) ?_
  refine ac_iload_n 1 dX8_count_0 rfl rfl ?_
  refine ac_tableIn 84 4 83 dX8_count_1 (by decide) (by decide) (by decide) (by decide) ?_
  refine ac_aload_n 85 dX8_count_84 rfl rfl ?_
  refine ac_getO 88 122 dX8_count_85 rfl fl8_7 ob121 rfl ?_
  refine ac_bipush 90 24 dX8_count_88 rfl (by decide) ?_
  refine ac_iald 91 dX8_count_90 rfl ar122 (ix_nI (k := 24) (by decide) (by decide)) ?_
  refine ac_iret dX8_count_91 ⟨_, rfl, rfl⟩ ?_
  exact rv_mk rfl
set_option maxRecDepth 20000 in
theorem q8_cnt5 {M : am_I} {V : am_J} {f : Nat → Option Nat} {np nd nh : Nat} (hn : NC (M 122) np nd nh) : CT m8_count 3 [Value.ref 121, Value.int 5] M V f (RV (M 122 31) M V f) := by
  refine CT.of m8_count_V.1 _ (en_ai_2 121 5) ?_
  refine ac_iload_n 1 dX8_count_0 rfl rfl ?_
  refine ac_tableIn 92 5 91 dX8_count_1 (by decide) (by decide) (by decide) (by decide) ?_
  refine ac_aload_n 93 dX8_count_92 rfl rfl ?_
  refine ac_getO 96 122 dX8_count_93 rfl fl8_7 ob121 rfl ?_
  refine ac_bipush 98 31 dX8_count_96 rfl (by decide) ?_
  refine ac_iald 99 dX8_count_98 rfl ar122 (ix_nI (k := 31) (by decide) (by decide)) ?_
  refine ac_iret dX8_count_99 ⟨_, rfl, rfl⟩ ?_
  exact rv_mk rfl
set_option maxRecDepth 20000 in
theorem q8_cnt6 {M : am_I} {V : am_J} {f : Nat → Option Nat} {np nd nh : Nat} (hn : NC (M 122) np nd nh) : CT m8_count 3 [Value.ref 121, Value.int 6] M V f (RV (upN (M 122) np) M V f) := by
  refine CT.of m8_count_V.1 _ (en_ai_2 121 6) ?_
  refine ac_iload_n 1 dX8_count_0 rfl rfl ?_
  refine ac_tableIn 100 6 99 dX8_count_1 (by decide) (by decide) (by decide) (by decide) ?_
  refine ac_aload_n 101 dX8_count_100 rfl rfl ?_
  refine ac_callV (μ' := m8_hanging) 104 dX8_count_101 rfl lk8_195 m8_hanging_V ob121 (c8_hanging hn) rfl rfl (by decide) (Nat.le_of_ble_eq_true rfl) ?_
  refine ac_iret dX8_count_104 ⟨_, rfl, rfl⟩ ?_
  exact rv_mk rfl
set_option maxRecDepth 20000 in
theorem q8_cnt7 {M : am_I} {V : am_J} {f : Nat → Option Nat} {np nd nh : Nat} (hn : NC (M 122) np nd nh) : CT m8_count 3 [Value.ref 121, Value.int 7] M V f (RV (M 121 6) M V f) := by
  refine CT.of m8_count_V.1 _ (en_ai_2 121 7) ?_
  refine ac_iload_n 1 dX8_count_0 rfl rfl ?_
  refine ac_tableIn 105 7 104 dX8_count_1 (by decide) (by decide) (by decide) (by decide) ?_
  refine ac_aload_n 106 dX8_count_105 rfl rfl ?_
  refine ac_getI 109 dX8_count_106 rfl fl8_189 ob121 ?_
  refine ac_iret dX8_count_109 ⟨_, rfl, rfl⟩ ?_
  exact rv_mk rfl
set_option maxRecDepth 20000 in
theorem q8_cnt8 {M : am_I} {V : am_J} {f : Nat → Option Nat} {np nd nh : Nat} (hn : NC (M 122) np nd nh) : CT m8_count 3 [Value.ref 121, Value.int 8] M V f (RV (M 121 10) M V f) := by
  refine CT.of m8_count_V.1 _ (en_ai_2 121 8) ?_
  refine ac_iload_n 1 dX8_count_0 rfl rfl ?_
  refine ac_tableIn 110 8 109 dX8_count_1 (by decide) (by decide) (by decide) (by decide) ?_
  refine ac_aload_n 111 dX8_count_110 rfl rfl ?_
  refine ac_getI 114 dX8_count_111 rfl fl8_61 ob121 ?_
  refine ac_iret dX8_count_114 ⟨_, rfl, rfl⟩ ?_
  exact rv_mk rfl
set_option maxRecDepth 20000 in
theorem q8_cnt9 {M : am_I} {V : am_J} {f : Nat → Option Nat} {np nd nh : Nat} (hn : NC (M 122) np nd nh) : CT m8_count 3 [Value.ref 121, Value.int 9] M V f (RV (M 121 3) M V f) := by
  refine CT.of m8_count_V.1 _ (en_ai_2 121 9) ?_
  refine ac_iload_n 1 dX8_count_0 rfl rfl ?_
  refine ac_tableIn 115 9 114 dX8_count_1 (by decide) (by decide) (by decide) (by decide) ?_
  refine ac_aload_n 116 dX8_count_115 rfl rfl ?_
  refine ac_getI 119 dX8_count_116 rfl fl8_108 ob121 ?_
  refine ac_iret dX8_count_119 ⟨_, rfl, rfl⟩ ?_
  exact rv_mk rfl
set_option maxRecDepth 20000 in
theorem q8_cntW {M : am_I} {V : am_J} {f : Nat → Option Nat} {what : Int32} (hw : ¬ vI what 10) : CT m8_count 3 [Value.ref 121, Value.int what] M V f (RV (-1) M V f) := by
  refine CT.of m8_count_V.1 _ (en_ai_2 121 what) ?_
  refine ac_iload_n 1 dX8_count_0 rfl rfl ?_
  refine ac_tableOut 120 dX8_count_1 (wh_out (n := 10) (by decide) hw) (by decide) ?_
  refine ac_iconst 121 (-1) dX8_count_120 rfl (by decide) ?_
  refine ac_iret dX8_count_121 ⟨_, rfl, rfl⟩ ?_
  exact rv_mk rfl
set_option maxRecDepth 20000 in
theorem q8_clear {M : am_I} {V : am_J} {f : Nat → Option Nat}  : CT m8_clear 1 [Value.ref 121] M V f (fun v M' V' f' => v = some (.int (M 121 10)) ∧ M' = am_up M 121 10 0 ∧ V' = V ∧ f' = f) := by
  refine CT.of m8_clear_V.1 _ (en_a_2 121) ?_
  refine ac_aload_n 1 dX8_clear_0 rfl rfl ?_
  refine ac_getI 4 dX8_clear_1 rfl fl8_61 ob121 ?_
  refine ac_istore_n 5 [some (Value.ref 121), some (Value.int (M 121 10))] dX8_clear_4 rfl rfl (Nat.le_of_ble_eq_true rfl) (by decide) rfl ?_
  refine ac_aload_n 6 dX8_clear_5 rfl rfl ?_
  refine ac_iconst 7 0 dX8_clear_6 rfl (by decide) ?_
  refine ac_putI 10 dX8_clear_7 rfl fl8_61 rfl rfl ob121 ?_
  refine ac_iload_n 11 dX8_clear_10 rfl rfl ?_
  refine ac_iret dX8_clear_11 ⟨_, rfl, rfl⟩ ?_
  exact ⟨rfl, rfl, rfl, rfl⟩
set_option maxRecDepth 20000 in
theorem q8_forget {M : am_I} {V : am_J} {f : Nat → Option Nat}  : CT m8_forget 1 [Value.ref 121] M V f (fun v M' V' f' => v = some (.int (M 121 6)) ∧ M' = am_up M 121 6 0 ∧ V' = V ∧ f' = f) := by
  refine CT.of m8_forget_V.1 _ (en_a_2 121) ?_
  refine ac_aload_n 1 dX8_forget_0 rfl rfl ?_
  refine ac_getI 4 dX8_forget_1 rfl fl8_189 ob121 ?_
  refine ac_istore_n 5 [some (Value.ref 121), some (Value.int (M 121 6))] dX8_forget_4 rfl rfl (Nat.le_of_ble_eq_true rfl) (by decide) rfl ?_
  refine ac_aload_n 6 dX8_forget_5 rfl rfl ?_
  refine ac_iconst 7 0 dX8_forget_6 rfl (by decide) ?_
  refine ac_putI 10 dX8_forget_7 rfl fl8_189 rfl rfl ob121 ?_
  refine ac_iload_n 11 dX8_forget_10 rfl rfl ?_
  refine ac_iret dX8_forget_11 ⟨_, rfl, rfl⟩ ?_
  exact ⟨rfl, rfl, rfl, rfl⟩
end
