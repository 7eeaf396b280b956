/-! ===== what the invariant gives ===== -/
theorem af_cmills {f g : Int} {Z : pSt} {M : jM} (I : jIn f g Z M) : 0 ≤ M 1 0 ∧ M 1 0 ≤ 6 := I.1.1.1
theorem af_ctrade {f g : Int} {Z : pSt} {M : jM} (I : jIn f g Z M) : ∀ i, 0 ≤ M 2 i ∧ M 2 i ≤ 3 := I.1.1.2.1
theorem af_cowner {f g : Int} {Z : pSt} {M : jM} (I : jIn f g Z M) : ∀ i, 0 ≤ M 3 i ∧ M 3 i ≤ 9 := I.1.1.2.2.1
theorem af_ctown {f g : Int} {Z : pSt} {M : jM} (I : jIn f g Z M) : ∀ i, 0 ≤ M 4 i ∧ M 4 i ≤ 8 := I.1.1.2.2.2.1
theorem af_cdoubt {f g : Int} {Z : pSt} {M : jM} (I : jIn f g Z M) : ∀ i, 0 ≤ M 5 i ∧ M 5 i ≤ 99 := I.1.1.2.2.2.2.1
theorem af_cchecks {f g : Int} {Z : pSt} {M : jM} (I : jIn f g Z M) : ∀ i, 0 ≤ M 6 i ∧ M 6 i ≤ 4 := I.1.1.2.2.2.2.2.1
theorem af_ccmin {f g : Int} {Z : pSt} {M : jM} (I : jIn f g Z M) : ∀ i, 0 ≤ M 7 i ∧ M 7 i ≤ 1439 := I.1.1.2.2.2.2.2.2.1
theorem af_ccerr {f g : Int} {Z : pSt} {M : jM} (I : jIn f g Z M) : ∀ i, -90 ≤ M 8 i ∧ M 8 i ≤ 90 := I.1.1.2.2.2.2.2.2.2
theorem af_chands {f g : Int} {Z : pSt} {M : jM} (I : jIn f g Z M) : 0 ≤ M 9 0 ∧ M 9 0 ≤ 24 := I.2.1.1.1
theorem af_ckind {f g : Int} {Z : pSt} {M : jM} (I : jIn f g Z M) : ∀ i, 0 ≤ M 10 i ∧ M 10 i ≤ 5 := I.2.1.1.2.1
theorem af_cpapers {f g : Int} {Z : pSt} {M : jM} (I : jIn f g Z M) : ∀ i, 0 ≤ M 11 i ∧ M 11 i ≤ 3 := I.2.1.1.2.2.1
theorem af_cgrade {f g : Int} {Z : pSt} {M : jM} (I : jIn f g Z M) : ∀ i, 0 ≤ M 15 i ∧ M 15 i ≤ 3 := I.2.1.1.2.2.2.1
theorem af_cfrom {f g : Int} {Z : pSt} {M : jM} (I : jIn f g Z M) : ∀ i, 0 ≤ M 12 i ∧ M 12 i ≤ 99999 := I.2.1.1.2.2.2.2.1
theorem af_cto {f g : Int} {Z : pSt} {M : jM} (I : jIn f g Z M) : ∀ i, 0 ≤ M 13 i ∧ M 13 i ≤ 10799 := I.2.1.1.2.2.2.2.2.1
theorem af_ccon {f g : Int} {Z : pSt} {M : jM} (I : jIn f g Z M) : ∀ i, 0 ≤ M 14 i ∧ M 14 i ≤ 1 := I.2.1.1.2.2.2.2.2.2
theorem af_clines {f g : Int} {Z : pSt} {M : jM} (I : jIn f g Z M) : 0 ≤ M 16 0 ∧ M 16 0 ≤ 60 := I.2.2.1.1.1
theorem af_clhand {f g : Int} {Z : pSt} {M : jM} (I : jIn f g Z M) : ∀ i, 0 ≤ M 17 i ∧ M 17 i ≤ 23 := I.2.2.1.1.2.1
theorem af_clday {f g : Int} {Z : pSt} {M : jM} (I : jIn f g Z M) : ∀ i, 0 ≤ M 18 i ∧ M 18 i ≤ 359 := I.2.2.1.1.2.2.1
theorem af_clwhere {f g : Int} {Z : pSt} {M : jM} (I : jIn f g Z M) : ∀ i, M 19 i = -9 ∨ (0 ≤ M 19 i ∧ M 19 i < 6) := I.2.2.1.1.2.2.2.1
theorem af_clin {f g : Int} {Z : pSt} {M : jM} (I : jIn f g Z M) : ∀ i, 0 ≤ M 20 i ∧ M 20 i ≤ 1439 := I.2.2.1.1.2.2.2.2.1
theorem af_clout {f g : Int} {Z : pSt} {M : jM} (I : jIn f g Z M) : ∀ i, 0 ≤ M 21 i ∧ M 21 i ≤ 1440 := I.2.2.1.1.2.2.2.2.2.1
theorem af_cio {f g : Int} {Z : pSt} {M : jM} (I : jIn f g Z M) : ∀ i, M 20 i ≤ M 21 i := I.2.2.1.1.2.2.2.2.2.2.1
theorem af_clw {f g : Int} {Z : pSt} {M : jM} (I : jIn f g Z M) : ∀ i, 0 ≤ i → i < M 16 0 → M 19 i = -9 ∨ (0 ≤ M 19 i ∧ M 19 i < M 1 0) := I.2.2.1.1.2.2.2.2.2.2.2
theorem af_cminutes {f g : Int} {Z : pSt} {M : jM} (I : jIn f g Z M) : ∀ i, 0 ≤ M 29 i ∧ M 29 i ≤ 300 := I.2.2.2.1.1.1
theorem af_cneeds {f g : Int} {Z : pSt} {M : jM} (I : jIn f g Z M) : ∀ i, 0 ≤ M 30 i ∧ M 30 i ≤ 3 := I.2.2.2.1.1.2
theorem af_cbenches {f g : Int} {Z : pSt} {M : jM} (I : jIn f g Z M) : 0 ≤ M 36 0 ∧ M 36 0 ≤ 5 := I.2.2.2.2.1.1.1
theorem af_ccases {f g : Int} {Z : pSt} {M : jM} (I : jIn f g Z M) : 0 ≤ M 36 3 ∧ M 36 3 ≤ 20 := I.2.2.2.2.1.1.2.1
theorem af_ckin {f g : Int} {Z : pSt} {M : jM} (I : jIn f g Z M) : ∀ i, 0 ≤ M 37 i ∧ M 37 i ≤ 1023 := I.2.2.2.2.1.1.2.2.1
theorem af_cbase {f g : Int} {Z : pSt} {M : jM} (I : jIn f g Z M) : ∀ i, 0 ≤ M 38 i ∧ M 38 i ≤ 500 := I.2.2.2.2.1.1.2.2.2.1
theorem af_ccbench {f g : Int} {Z : pSt} {M : jM} (I : jIn f g Z M) : ∀ i, 0 ≤ M 39 i ∧ M 39 i ≤ 4 := I.2.2.2.2.1.1.2.2.2.2.1
theorem af_ccmill {f g : Int} {Z : pSt} {M : jM} (I : jIn f g Z M) : ∀ i, 0 ≤ M 40 i ∧ M 40 i ≤ 5 := I.2.2.2.2.1.1.2.2.2.2.2.1
theorem af_ccof {f g : Int} {Z : pSt} {M : jM} (I : jIn f g Z M) : ∀ i, 0 ≤ M 41 i ∧ M 41 i ≤ 5 := I.2.2.2.2.1.1.2.2.2.2.2.2.1
theorem af_cstands {f g : Int} {Z : pSt} {M : jM} (I : jIn f g Z M) : ∀ i, 0 ≤ M 42 i ∧ M 42 i ≤ 1 := I.2.2.2.2.1.1.2.2.2.2.2.2.2.1
theorem af_cchand {f g : Int} {Z : pSt} {M : jM} (I : jIn f g Z M) : ∀ i, 0 ≤ M 43 i ∧ M 43 i ≤ 23 := I.2.2.2.2.1.1.2.2.2.2.2.2.2.2
theorem af_chours {f g : Int} {Z : pSt} {M : jM} (I : jIn f g Z M) : ∀ i, 0 ≤ M 45 i ∧ M 45 i ≤ 30 := I.2.2.2.2.2.1.1
theorem af_ctyped {f g : Int} {Z : pSt} {M : jM} (I : jIn f g Z M) : 0 ≤ M 71 0 ∧ M 71 0 ≤ 900 := I.2.2.2.2.2.2.1.1
theorem af_ctext {f g : Int} {Z : pSt} {M : jM} (I : jIn f g Z M) : ∀ i, -128 ≤ M 72 i ∧ M 72 i ≤ 127 := I.2.2.2.2.2.2.1.2.1
theorem tn_74_3 {f g : Int} {Z : pSt} {M N : jM} (k : rSm M N) (I : jIn f g Z M) : N 74 3 = M 1 0 := by rw [k 74 (by decide)]; exact (I.1.2.1).symm
theorem tn_76 {f g : Int} {Z : pSt} {M N : jM} (k : rSm M N) (I : jIn f g Z M) : N 76 = M 2 := by rw [k 76 (by decide)]; exact (I.1.2.2.1).symm
theorem tn_77 {f g : Int} {Z : pSt} {M N : jM} (k : rSm M N) (I : jIn f g Z M) : N 77 = M 3 := by rw [k 77 (by decide)]; exact (I.1.2.2.2.1).symm
theorem tn_78 {f g : Int} {Z : pSt} {M N : jM} (k : rSm M N) (I : jIn f g Z M) : N 78 = M 4 := by rw [k 78 (by decide)]; exact (I.1.2.2.2.2.1).symm
theorem tn_79 {f g : Int} {Z : pSt} {M N : jM} (k : rSm M N) (I : jIn f g Z M) : N 79 = M 5 := by rw [k 79 (by decide)]; exact (I.1.2.2.2.2.2.1).symm
theorem tn_94 {f g : Int} {Z : pSt} {M N : jM} (k : rSm M N) (I : jIn f g Z M) : N 94 = M 6 := by rw [k 94 (by decide)]; exact (I.1.2.2.2.2.2.2.1).symm
theorem tn_95 {f g : Int} {Z : pSt} {M N : jM} (k : rSm M N) (I : jIn f g Z M) : N 95 = M 7 := by rw [k 95 (by decide)]; exact (I.1.2.2.2.2.2.2.2.1).symm
theorem tn_96 {f g : Int} {Z : pSt} {M N : jM} (k : rSm M N) (I : jIn f g Z M) : N 96 = M 8 := by rw [k 96 (by decide)]; exact (I.1.2.2.2.2.2.2.2.2).symm
theorem tn_74_8 {f g : Int} {Z : pSt} {M N : jM} (k : rSm M N) (I : jIn f g Z M) : N 74 8 = M 9 0 := by rw [k 74 (by decide)]; exact (I.2.1.2.1.1).symm
theorem tn_80 {f g : Int} {Z : pSt} {M N : jM} (k : rSm M N) (I : jIn f g Z M) : N 80 = M 10 := by rw [k 80 (by decide)]; exact (I.2.1.2.1.2.1).symm
theorem tn_81 {f g : Int} {Z : pSt} {M N : jM} (k : rSm M N) (I : jIn f g Z M) : N 81 = M 15 := by rw [k 81 (by decide)]; exact (I.2.1.2.1.2.2.1).symm
theorem tn_82 {f g : Int} {Z : pSt} {M N : jM} (k : rSm M N) (I : jIn f g Z M) : N 82 = M 11 := by rw [k 82 (by decide)]; exact (I.2.1.2.1.2.2.2).symm
theorem tn_74_27 {f g : Int} {Z : pSt} {M N : jM} (k : rSm M N) (I : jIn f g Z M) : N 74 27 = M 16 0 := by rw [k 74 (by decide)]; exact (I.2.2.1.2.1).symm
theorem tn_89 {f g : Int} {Z : pSt} {M N : jM} (k : rSm M N) (I : jIn f g Z M) : N 89 = M 17 := by rw [k 89 (by decide)]; exact (I.2.2.1.2.2.1).symm
theorem tn_90 {f g : Int} {Z : pSt} {M N : jM} (k : rSm M N) (I : jIn f g Z M) : N 90 = M 18 := by rw [k 90 (by decide)]; exact (I.2.2.1.2.2.2.1).symm
theorem tn_91 {f g : Int} {Z : pSt} {M N : jM} (k : rSm M N) (I : jIn f g Z M) : N 91 = M 19 := by rw [k 91 (by decide)]; exact (I.2.2.1.2.2.2.2.1).symm
theorem tn_92 {f g : Int} {Z : pSt} {M N : jM} (k : rSm M N) (I : jIn f g Z M) : N 92 = M 20 := by rw [k 92 (by decide)]; exact (I.2.2.1.2.2.2.2.2.1).symm
theorem tn_93 {f g : Int} {Z : pSt} {M N : jM} (k : rSm M N) (I : jIn f g Z M) : N 93 = M 21 := by rw [k 93 (by decide)]; exact (I.2.2.1.2.2.2.2.2.2).symm
theorem tn_97 {f g : Int} {Z : pSt} {M N : jM} (k : rSm M N) (I : jIn f g Z M) : N 97 = M 29 := by rw [k 97 (by decide)]; exact (I.2.2.2.1.2.1).symm
theorem tn_98 {f g : Int} {Z : pSt} {M N : jM} (k : rSm M N) (I : jIn f g Z M) : N 98 = M 30 := by rw [k 98 (by decide)]; exact (I.2.2.2.1.2.2).symm
theorem tn_74_38 {f g : Int} {Z : pSt} {M N : jM} (k : rSm M N) (I : jIn f g Z M) : N 74 38 = M 36 0 := by rw [k 74 (by decide)]; exact (I.2.2.2.2.1.2.1).symm
theorem tn_74_41 {f g : Int} {Z : pSt} {M N : jM} (k : rSm M N) (I : jIn f g Z M) : N 74 41 = M 36 3 := by rw [k 74 (by decide)]; exact (I.2.2.2.2.1.2.2.1).symm
theorem tn_99 {f g : Int} {Z : pSt} {M N : jM} (k : rSm M N) (I : jIn f g Z M) : N 99 = M 37 := by rw [k 99 (by decide)]; exact (I.2.2.2.2.1.2.2.2.1).symm
theorem tn_100 {f g : Int} {Z : pSt} {M N : jM} (k : rSm M N) (I : jIn f g Z M) : N 100 = M 38 := by rw [k 100 (by decide)]; exact (I.2.2.2.2.1.2.2.2.2.1).symm
theorem tn_104 {f g : Int} {Z : pSt} {M N : jM} (k : rSm M N) (I : jIn f g Z M) : N 104 = M 39 := by rw [k 104 (by decide)]; exact (I.2.2.2.2.1.2.2.2.2.2.1).symm
theorem tn_101 {f g : Int} {Z : pSt} {M N : jM} (k : rSm M N) (I : jIn f g Z M) : N 101 = M 40 := by rw [k 101 (by decide)]; exact (I.2.2.2.2.1.2.2.2.2.2.2.1).symm
theorem tn_103 {f g : Int} {Z : pSt} {M N : jM} (k : rSm M N) (I : jIn f g Z M) : N 103 = M 41 := by rw [k 103 (by decide)]; exact (I.2.2.2.2.1.2.2.2.2.2.2.2.1).symm
theorem tn_105 {f g : Int} {Z : pSt} {M N : jM} (k : rSm M N) (I : jIn f g Z M) : N 105 = M 42 := by rw [k 105 (by decide)]; exact (I.2.2.2.2.1.2.2.2.2.2.2.2.2.1).symm
theorem tn_102 {f g : Int} {Z : pSt} {M N : jM} (k : rSm M N) (I : jIn f g Z M) : N 102 = M 43 := by rw [k 102 (by decide)]; exact (I.2.2.2.2.1.2.2.2.2.2.2.2.2.2).symm
theorem tn_106 {f g : Int} {Z : pSt} {M N : jM} (k : rSm M N) (I : jIn f g Z M) : N 106 = M 45 := by rw [k 106 (by decide)]; exact (I.2.2.2.2.2.1.2).symm
theorem tn_74_14 {f g : Int} {Z : pSt} {M N : jM} (k : rSm M N) (I : jIn f g Z M) : N 74 14 = M 71 0 := by rw [k 74 (by decide)]; exact (I.2.2.2.2.2.2.1.2.2.2.1).symm
theorem tn_74_1 {f g : Int} {Z : pSt} {M N : jM} (k : rSm M N) (I : jIn f g Z M) : N 74 1 = M 0 9 := by rw [k 74 (by decide)]; exact (I.2.2.2.2.2.2.2.2.2).symm
theorem af_rmills {f g : Int} {Z : pSt} {M N : jM} (k : rSm M N) (I : jIn f g Z M) : 0 ≤ N 74 3 ∧ N 74 3 ≤ 6 := by rw [tn_74_3 k I]; exact af_cmills I
theorem af_rhands {f g : Int} {Z : pSt} {M N : jM} (k : rSm M N) (I : jIn f g Z M) : 0 ≤ N 74 8 ∧ N 74 8 ≤ 24 := by rw [tn_74_8 k I]; exact af_chands I
theorem af_rtyped {f g : Int} {Z : pSt} {M N : jM} (k : rSm M N) (I : jIn f g Z M) : 0 ≤ N 74 14 ∧ N 74 14 ≤ 900 := by rw [tn_74_14 k I]; exact af_ctyped I
theorem af_rlines {f g : Int} {Z : pSt} {M N : jM} (k : rSm M N) (I : jIn f g Z M) : 0 ≤ N 74 27 ∧ N 74 27 ≤ 60 := by rw [tn_74_27 k I]; exact af_clines I
theorem af_rbenches {f g : Int} {Z : pSt} {M N : jM} (k : rSm M N) (I : jIn f g Z M) : 0 ≤ N 74 38 ∧ N 74 38 ≤ 5 := by rw [tn_74_38 k I]; exact af_cbenches I
theorem af_rcases {f g : Int} {Z : pSt} {M N : jM} (k : rSm M N) (I : jIn f g Z M) : 0 ≤ N 74 41 ∧ N 74 41 ≤ 20 := by rw [tn_74_41 k I]; exact af_ccases I
theorem af_rtrade {f g : Int} {Z : pSt} {M N : jM} (k : rSm M N) (I : jIn f g Z M) : ∀ i, 0 ≤ N 76 i ∧ N 76 i ≤ 3 := by rw [tn_76 k I]; exact af_ctrade I
theorem af_rowner {f g : Int} {Z : pSt} {M N : jM} (k : rSm M N) (I : jIn f g Z M) : ∀ i, 0 ≤ N 77 i ∧ N 77 i ≤ 9 := by rw [tn_77 k I]; exact af_cowner I
theorem af_rtown {f g : Int} {Z : pSt} {M N : jM} (k : rSm M N) (I : jIn f g Z M) : ∀ i, 0 ≤ N 78 i ∧ N 78 i ≤ 8 := by rw [tn_78 k I]; exact af_ctown I
theorem af_rdoubt {f g : Int} {Z : pSt} {M N : jM} (k : rSm M N) (I : jIn f g Z M) : ∀ i, 0 ≤ N 79 i ∧ N 79 i ≤ 99 := by rw [tn_79 k I]; exact af_cdoubt I
theorem af_rkind {f g : Int} {Z : pSt} {M N : jM} (k : rSm M N) (I : jIn f g Z M) : ∀ i, 0 ≤ N 80 i ∧ N 80 i ≤ 5 := by rw [tn_80 k I]; exact af_ckind I
theorem af_rgrade {f g : Int} {Z : pSt} {M N : jM} (k : rSm M N) (I : jIn f g Z M) : ∀ i, 0 ≤ N 81 i ∧ N 81 i ≤ 3 := by rw [tn_81 k I]; exact af_cgrade I
theorem af_rpapers {f g : Int} {Z : pSt} {M N : jM} (k : rSm M N) (I : jIn f g Z M) : ∀ i, 0 ≤ N 82 i ∧ N 82 i ≤ 3 := by rw [tn_82 k I]; exact af_cpapers I
theorem af_rchecks {f g : Int} {Z : pSt} {M N : jM} (k : rSm M N) (I : jIn f g Z M) : ∀ i, 0 ≤ N 94 i ∧ N 94 i ≤ 4 := by rw [tn_94 k I]; exact af_cchecks I
theorem af_rcmin {f g : Int} {Z : pSt} {M N : jM} (k : rSm M N) (I : jIn f g Z M) : ∀ i, 0 ≤ N 95 i ∧ N 95 i ≤ 1439 := by rw [tn_95 k I]; exact af_ccmin I
theorem af_rcerr {f g : Int} {Z : pSt} {M N : jM} (k : rSm M N) (I : jIn f g Z M) : ∀ i, -90 ≤ N 96 i ∧ N 96 i ≤ 90 := by rw [tn_96 k I]; exact af_ccerr I
theorem af_rlhand {f g : Int} {Z : pSt} {M N : jM} (k : rSm M N) (I : jIn f g Z M) : ∀ i, 0 ≤ N 89 i ∧ N 89 i ≤ 23 := by rw [tn_89 k I]; exact af_clhand I
theorem af_rlday {f g : Int} {Z : pSt} {M N : jM} (k : rSm M N) (I : jIn f g Z M) : ∀ i, 0 ≤ N 90 i ∧ N 90 i ≤ 359 := by rw [tn_90 k I]; exact af_clday I
theorem af_rlwhere {f g : Int} {Z : pSt} {M N : jM} (k : rSm M N) (I : jIn f g Z M) : ∀ i, N 91 i = -9 ∨ (0 ≤ N 91 i ∧ N 91 i < 6) := by rw [tn_91 k I]; exact af_clwhere I
theorem af_rlin {f g : Int} {Z : pSt} {M N : jM} (k : rSm M N) (I : jIn f g Z M) : ∀ i, 0 ≤ N 92 i ∧ N 92 i ≤ 1439 := by rw [tn_92 k I]; exact af_clin I
theorem af_rlout {f g : Int} {Z : pSt} {M N : jM} (k : rSm M N) (I : jIn f g Z M) : ∀ i, 0 ≤ N 93 i ∧ N 93 i ≤ 1440 := by rw [tn_93 k I]; exact af_clout I
theorem af_rminutes {f g : Int} {Z : pSt} {M N : jM} (k : rSm M N) (I : jIn f g Z M) : ∀ i, 0 ≤ N 97 i ∧ N 97 i ≤ 300 := by rw [tn_97 k I]; exact af_cminutes I
theorem af_rneeds {f g : Int} {Z : pSt} {M N : jM} (k : rSm M N) (I : jIn f g Z M) : ∀ i, 0 ≤ N 98 i ∧ N 98 i ≤ 3 := by rw [tn_98 k I]; exact af_cneeds I
theorem af_rkin {f g : Int} {Z : pSt} {M N : jM} (k : rSm M N) (I : jIn f g Z M) : ∀ i, 0 ≤ N 99 i ∧ N 99 i ≤ 1023 := by rw [tn_99 k I]; exact af_ckin I
theorem af_rbase {f g : Int} {Z : pSt} {M N : jM} (k : rSm M N) (I : jIn f g Z M) : ∀ i, 0 ≤ N 100 i ∧ N 100 i ≤ 500 := by rw [tn_100 k I]; exact af_cbase I
theorem af_rcmill {f g : Int} {Z : pSt} {M N : jM} (k : rSm M N) (I : jIn f g Z M) : ∀ i, 0 ≤ N 101 i ∧ N 101 i ≤ 5 := by rw [tn_101 k I]; exact af_ccmill I
theorem af_rchand {f g : Int} {Z : pSt} {M N : jM} (k : rSm M N) (I : jIn f g Z M) : ∀ i, 0 ≤ N 102 i ∧ N 102 i ≤ 23 := by rw [tn_102 k I]; exact af_cchand I
theorem af_rcof {f g : Int} {Z : pSt} {M N : jM} (k : rSm M N) (I : jIn f g Z M) : ∀ i, 0 ≤ N 103 i ∧ N 103 i ≤ 5 := by rw [tn_103 k I]; exact af_ccof I
theorem af_rcbench {f g : Int} {Z : pSt} {M N : jM} (k : rSm M N) (I : jIn f g Z M) : ∀ i, 0 ≤ N 104 i ∧ N 104 i ≤ 4 := by rw [tn_104 k I]; exact af_ccbench I
theorem af_rstands {f g : Int} {Z : pSt} {M N : jM} (k : rSm M N) (I : jIn f g Z M) : ∀ i, 0 ≤ N 105 i ∧ N 105 i ≤ 1 := by rw [tn_105 k I]; exact af_cstands I
theorem af_rroad {f g : Int} {Z : pSt} {M N : jM} (k : rSm M N) (I : jIn f g Z M) : ∀ i, 0 ≤ N 106 i ∧ N 106 i ≤ 30 := by rw [tn_106 k I]; exact af_chours I
theorem af_rpaper {f g : Int} {Z : pSt} {M N : jM} (k : rSm M N) (I : jIn f g Z M) : pOk (N 83) := by rw [k 83 (by decide)]; exact I.2.1.2.2.1
theorem af_rtext {f g : Int} {Z : pSt} {M N : jM} (k : rSm M N) (I : jIn f g Z M) : ∀ i, 0 ≤ N 84 i ∧ N 84 i ≤ 255 := by rw [k 84 (by decide)]; exact I.2.2.2.2.2.2.1.2.2.1
theorem af_rwords {f g : Int} {Z : pSt} {M N : jM} (k : rSm M N) (I : jIn f g Z M) : ∀ k, 0 ≤ k → k < 16 → N 75 k = wVal k := by rw [k 75 (by decide)]; exact I.2.2.2.2.2.2.2.1
theorem af_f {f g : Int} {Z : pSt} {M : jM} (I : jIn f g Z M) : jA f ∧ jA g ∧ f ≠ g := I.2.2.2.2.2.2.2.2.1.1
theorem af_7 {f g : Int} {Z : pSt} {M : jM} (I : jIn f g Z M) : M 0 7 = f := I.2.2.2.2.2.2.2.2.1.2.1.1
theorem af_8 {f g : Int} {Z : pSt} {M : jM} (I : jIn f g Z M) : M 0 8 = g := I.2.2.2.2.2.2.2.2.1.2.1.2
theorem af_z {f g : Int} {Z : pSt} {M : jM} (I : jIn f g Z M) : tzOk Z := I.2.2.2.2.2.2.2.2.1.2.2.1
theorem af_ca {f g : Int} {Z : pSt} {M : jM} (I : jIn f g Z M) : cAr f M Z := I.2.2.2.2.2.2.2.2.1.2.2.2.1
theorem af_ra {f g : Int} {Z : pSt} {M : jM} (I : jIn f g Z M) : rIn M Z := I.2.2.2.2.2.2.2.2.1.2.2.2.2
theorem af_cact {f g : Int} {Z : pSt} {M : jM} (I : jIn f g Z M) : cAct M f := tz_cAct (af_z I) (af_ca I)
theorem af_rin {f g : Int} {Z : pSt} {M N : jM} (k : rSm M N) (I : jIn f g Z M) : rIn N Z := rIn_fr (af_z I) (fun i _ => by rw [k 85 (by decide)]) (fun i _ => by rw [k 86 (by decide)]) (by rw [k 74 (by decide)]) (af_ra I)
theorem af_ract {f g : Int} {Z : pSt} {M N : jM} (k : rSm M N) (I : jIn f g Z M) : rAct N := tz_rAct (af_z I) (af_rin k I)
theorem af_rrules {f g : Int} {Z : pSt} {M N : jM} (k : rSm M N) (I : jIn f g Z M) : 0 ≤ N 74 20 ∧ N 74 20 ≤ 16 := (af_ract k I).1
theorem tn_20 {f g : Int} {Z : pSt} {M N : jM} (k : rSm M N) (I : jIn f g Z M) : N 74 20 = M f 0 := by rw [(af_rin k I).1, (af_ca I).1]
theorem af_tx {f g : Int} {Z : pSt} {M N : jM} (k : rSm M N) (I : jIn f g Z M) : rTx N = cTx M := by rw [gX_tx I.2.2.2.2.2.2.1]; unfold rTx; rw [k 74 (by decide), k 84 (by decide)]
theorem af_bn {f g : Int} {Z : pSt} {M : jM} (I : jIn f g Z M) : ∀ h, 0 ≤ h → h < M 9 0 → bnT M h := I.2.1.2.2.2.1
theorem af_bn0 {f g : Int} {Z : pSt} {M : jM} (I : jIn f g Z M) : ∀ h, M 9 0 ≤ h → M 14 h = 0 ∧ M 82 h = 0 := I.2.1.2.2.2.2
theorem jup_hi {c' : Int} (h : 74 ≤ c') (M : jM) (c k v : Int) (hc : c < 74) : jup M c k v c' = M c' := jup_cell (by omega)
theorem jup_lo {c' : Int} (h : c' < 74) (M : jM) (c k v : Int) (hc : 74 ≤ c) : jup M c k v c' = M c' := jup_cell (by omega)
