/-! THE READING OF A TEXT -/
def rbC (S : St) (nc : Nat) (x : Int32) : Int32 × St := if x = 124 then (if S 0 < 7 then (0, upd S 0 (S 0 + 1)) else (-1, S)) else if x < 49 then (-1, S) else if 52 < x then (-1, S) else if S 7 < 14 then (1, hangS (upd S 7 (nI (nc + 1))) nc (S 0 - 1) (x - 48) 0 0) else (-1, S)
def rb0 (S : St) (x p : Int32) : Int32 × St := if p = 3 then (-1, S) else if x = 43 then (if p = 1 then (3, S) else if p = 2 then (3, S) else (-1, S)) else if x = 99 then (-1, S) else rbC S 0 x
def rb1 (S : St) (n : Nat) (x p : Int32) : Int32 × St := if p = 3 then (if x < 48 then (-1, S) else if x ≤ 57 then (0, upd S (13 + 8 * n + 2) (x - 48)) else (-1, S)) else if x = 43 then (if p = 1 then (3, S) else if p = 2 then (3, S) else (-1, S)) else if x = 99 then (if p = 1 then (2, upd S (13 + 8 * n + 3) 1) else (-1, S)) else rbC S (n + 1) x
def rb (S : St) (nc : Nat) (x p : Int32) : Int32 × St := match nc with
  | 0 => rb0 S x p
  | n + 1 => rb1 S n x p
theorem lt14 {S : St} {nc : Nat} (e7 : S 7 = nI nc) (hm : nc ≤ 14) (h : S 7 < 14) : nc < 14 := (nI_ltI (b := 14) (by omega) (by decide)).mp (by rw [e7] at h; exact h)

set_option maxRecDepth 100000 in
set_option maxHeartbeats 4000000 in
theorem k_rb0 {E : EE} {B : Nat} {S : St} {w : Wo} (e7 : S 7 = nI 0) (x p : Int32) : Cd E mX3_readByte (pl E B S w) [.ref B, .int x, .int p] (some (.int (rb0 S x p).1)) (pl E B (rb0 S x p).2 w) := by
  refine Cd.of RX3 rfl (by decide) [some (.ref B), some (.int x), some (.int p), none] (Nat.le_of_ble_eq_true rfl) rfl (fun Γ h f hmn => ?_)
  refine v_aload_n (i := 0) h 0 1 dX3_readByte_0 rfl rfl ld0 ?_
  refine v_aload_n (i := 0) h 1 2 dX3_readByte_1 rfl rfl ld0 ?_
  refine v_get h 2 5 dX3_readByte_2 rfl fo_X3_47 pl_ln rfl ?_
  rw [e7]
  refine v_iconst (v := 1) h 5 6 dX3_readByte_5 rfl (by decide) ?_
  refine v_isub h 6 7 dX3_readByte_6 rfl ?_
  rw [show nI 0 - 1 = -1 from by decide]
  refine v_callV1 h 7 10 dX3_readByte_7 rfl cb_X1_chairAt cv_X1_chairAt pl_ln lk_X3_89 (rok (by decide) (by decide)) ⟨rfl, rfl⟩ ⟨Nat.zero_le _, Nat.zero_le _⟩ (k_chairNone (Or.inl (by decide))) rfl rfl (Nat.le_of_ble_eq_true rfl) ?_
  refine v_astore_nN (i := 3) h 10 11 dX3_readByte_10 rfl rfl (by decide) (so3 rfl) ?_
  refine v_iload_n (i := 2) h 11 12 dX3_readByte_11 rfl rfl ld2 ?_
  refine v_iconst (v := 3) h 12 13 dX3_readByte_12 rfl (by decide) ?_
  refine v_icmp_ne h 13 16 44 dX3_readByte_13 rfl (by decide) (fun h13 => ?_) (fun h13 => ?_)
  · refine v_iload_n (i := 1) h 44 45 dX3_readByte_44 rfl rfl ld1 ?_
    refine v_bipush (v := 43) h 45 47 dX3_readByte_45 rfl (by decide) ?_
    refine v_icmp_ne h 47 50 66 dX3_readByte_47 rfl (by decide) (fun h47 => ?_) (fun h47 => ?_)
    · refine v_iload_n (i := 1) h 66 67 dX3_readByte_66 rfl rfl ld1 ?_
      refine v_bipush (v := 99) h 67 69 dX3_readByte_67 rfl (by decide) ?_
      refine v_icmp_ne h 69 72 90 dX3_readByte_69 rfl (by decide) (fun h69 => ?_) (fun h69 => ?_)
      · refine v_iload_n (i := 1) h 90 91 dX3_readByte_90 rfl rfl ld1 ?_
        refine v_bipush (v := 124) h 91 93 dX3_readByte_91 rfl (by decide) ?_
        refine v_icmp_ne h 93 96 119 dX3_readByte_93 rfl (by decide) (fun h93 => ?_) (fun h93 => ?_)
        · refine v_iload_n (i := 1) h 119 120 dX3_readByte_119 rfl rfl ld1 ?_
          refine v_bipush (v := 49) h 120 122 dX3_readByte_120 rfl (by decide) ?_
          refine v_icmp_lt h 122 125 140 dX3_readByte_122 rfl (by decide) (fun h122 => ?_) (fun h122 => ?_)
          · refine v_iconst (v := (-1)) h 140 141 dX3_readByte_140 rfl (by decide) ?_
            refine v_iret h 141 f dX3_readByte_141 rfl (Nat.zero_le _) (Nat.zero_le _) ?_ ?_
            all_goals first | rfl | (rw [rb0, if_neg h13, if_neg h47, if_neg h69]; done) | (rw [rb0, if_neg h13, if_neg h47, if_neg h69, rbC, if_neg h93, if_pos h122]; done)
          · refine v_iload_n (i := 1) h 125 126 dX3_readByte_125 rfl rfl ld1 ?_
            refine v_bipush (v := 52) h 126 128 dX3_readByte_126 rfl (by decide) ?_
            refine v_icmp_gt h 128 131 140 dX3_readByte_128 rfl (by decide) (fun h128 => ?_) (fun h128 => ?_)
            · refine v_iconst (v := (-1)) h 140 141 dX3_readByte_140 rfl (by decide) ?_
              refine v_iret h 141 f dX3_readByte_141 rfl (Nat.zero_le _) (Nat.zero_le _) ?_ ?_
              all_goals first | rfl | (rw [rb0, if_neg h13, if_neg h47, if_neg h69]; done) | (rw [rb0, if_neg h13, if_neg h47, if_neg h69, rbC, if_neg h93, if_neg h122, if_pos h128]; done)
            · refine v_aload_n (i := 0) h 131 132 dX3_readByte_131 rfl rfl ld0 ?_
              refine v_get h 132 135 dX3_readByte_132 rfl fo_X3_47 pl_ln rfl ?_
              refine v_bipush (v := 14) h 135 137 dX3_readByte_135 rfl (by decide) ?_
              refine v_icmp_lt h 137 140 142 dX3_readByte_137 rfl (by decide) (fun h137 => ?_) (fun h137 => ?_)
              · refine v_aload_n (i := 0) h 142 143 dX3_readByte_142 rfl rfl ld0 ?_
                refine v_aload_n (i := 0) h 143 144 dX3_readByte_143 rfl rfl ld0 ?_
                refine v_get h 144 147 dX3_readByte_144 rfl fo_X3_171 pl_ln rfl ?_
                refine v_iconst (v := 1) h 147 148 dX3_readByte_147 rfl (by decide) ?_
                refine v_isub h 148 149 dX3_readByte_148 rfl ?_
                refine v_iload_n (i := 1) h 149 150 dX3_readByte_149 rfl rfl ld1 ?_
                refine v_bipush (v := 48) h 150 152 dX3_readByte_150 rfl (by decide) ?_
                refine v_isub h 152 153 dX3_readByte_152 rfl ?_
                refine v_iconst (v := 0) h 153 154 dX3_readByte_153 rfl (by decide) ?_
                refine v_iconst (v := 0) h 154 155 dX3_readByte_154 rfl (by decide) ?_
                refine v_callV1 h 155 158 dX3_readByte_155 rfl cb_X1_hangChair cv_X1_hangChair pl_ln lk_X3_59 (rok (by decide) (by decide)) ⟨rfl, rfl⟩ ⟨Nat.zero_le _, Nat.zero_le _⟩ (k_hangChair e7 (lt14 e7 (by decide) h137) _ _ _ _ (Or.inl rfl)) rfl rfl (Nat.le_of_ble_eq_true rfl) ?_
                refine v_pop h 158 159 dX3_readByte_158 rfl rfl ?_
                refine v_iconst (v := 1) h 159 160 dX3_readByte_159 rfl (by decide) ?_
                refine v_iret h 160 f dX3_readByte_160 rfl (Nat.zero_le _) (Nat.zero_le _) ?_ ?_
                all_goals first | rfl | (rw [rb0, if_neg h13, if_neg h47, if_neg h69]; done) | (rw [rb0, if_neg h13, if_neg h47, if_neg h69, rbC, if_neg h93, if_neg h122, if_neg h128, if_pos h137]; done)
              · refine v_iconst (v := (-1)) h 140 141 dX3_readByte_140 rfl (by decide) ?_
                refine v_iret h 141 f dX3_readByte_141 rfl (Nat.zero_le _) (Nat.zero_le _) ?_ ?_
                all_goals first | rfl | (rw [rb0, if_neg h13, if_neg h47, if_neg h69]; done) | (rw [rb0, if_neg h13, if_neg h47, if_neg h69, rbC, if_neg h93, if_neg h122, if_neg h128, if_neg h137]; done)
        · refine v_aload_n (i := 0) h 96 97 dX3_readByte_96 rfl rfl ld0 ?_
          refine v_get h 97 100 dX3_readByte_97 rfl fo_X3_171 pl_ln rfl ?_
          refine v_bipush (v := 7) h 100 102 dX3_readByte_100 rfl (by decide) ?_
          refine v_icmp_lt h 102 105 107 dX3_readByte_102 rfl (by decide) (fun h102 => ?_) (fun h102 => ?_)
          · refine v_aload_n (i := 0) h 107 108 dX3_readByte_107 rfl rfl ld0 ?_
            refine v_dup h 108 109 dX3_readByte_108 rfl rfl ?_
            refine v_get h 109 112 dX3_readByte_109 rfl fo_X3_171 pl_ln rfl ?_
            refine v_iconst (v := 1) h 112 113 dX3_readByte_112 rfl (by decide) ?_
            refine v_iadd h 113 114 dX3_readByte_113 rfl ?_
            refine v_putLn h 114 117 0 dX3_readByte_114 rfl fw_X3_171 rfl (by decide) ?_
            refine v_iconst (v := 0) h 117 118 dX3_readByte_117 rfl (by decide) ?_
            refine v_iret h 118 f dX3_readByte_118 rfl (Nat.zero_le _) (Nat.zero_le _) ?_ ?_
            all_goals first | rfl | (rw [rb0, if_neg h13, if_neg h47, if_neg h69]; done) | (rw [rb0, if_neg h13, if_neg h47, if_neg h69, rbC, if_pos h93, if_pos h102]; done)
          · refine v_iconst (v := (-1)) h 105 106 dX3_readByte_105 rfl (by decide) ?_
            refine v_iret h 106 f dX3_readByte_106 rfl (Nat.zero_le _) (Nat.zero_le _) ?_ ?_
            all_goals first | rfl | (rw [rb0, if_neg h13, if_neg h47, if_neg h69]; done) | (rw [rb0, if_neg h13, if_neg h47, if_neg h69, rbC, if_pos h93, if_neg h102]; done)
      · refine v_aload_nN (i := 3) h 72 73 dX3_readByte_72 rfl rfl ld3 ?_
        refine v_ifnullN h 73 81 dX3_readByte_73 (by decide) ?_
        refine v_iconst (v := (-1)) h 81 82 dX3_readByte_81 rfl (by decide) ?_
        refine v_iret h 82 f dX3_readByte_82 rfl (Nat.zero_le _) (Nat.zero_le _) ?_ ?_
        all_goals first | rfl | (rw [rb0, if_neg h13, if_neg h47, if_pos h69]; done) | (rw [rb0, if_neg h13, if_neg h47, if_pos h69, rbC, id_eq]; done)
    · refine v_iload_n (i := 2) h 50 51 dX3_readByte_50 rfl rfl ld2 ?_
      refine v_iconst (v := 1) h 51 52 dX3_readByte_51 rfl (by decide) ?_
      refine v_icmp_eq h 52 55 60 dX3_readByte_52 rfl (by decide) (fun h52 => ?_) (fun h52 => ?_)
      · refine v_iconst (v := 3) h 60 61 dX3_readByte_60 rfl (by decide) ?_
        refine v_goto h 61 65 dX3_readByte_61 (by decide) ?_
        refine v_iret h 65 f dX3_readByte_65 rfl (Nat.zero_le _) (Nat.zero_le _) ?_ ?_
        all_goals first | rfl | (rw [rb0, if_neg h13, if_pos h47, if_pos h52]; done) | (rw [rb0, if_neg h13, if_pos h47, rbC, id_eq]; done)
      · refine v_iload_n (i := 2) h 55 56 dX3_readByte_55 rfl rfl ld2 ?_
        refine v_iconst (v := 2) h 56 57 dX3_readByte_56 rfl (by decide) ?_
        refine v_icmp_ne h 57 60 64 dX3_readByte_57 rfl (by decide) (fun h57 => ?_) (fun h57 => ?_)
        · refine v_iconst (v := (-1)) h 64 65 dX3_readByte_64 rfl (by decide) ?_
          refine v_iret h 65 f dX3_readByte_65 rfl (Nat.zero_le _) (Nat.zero_le _) ?_ ?_
          all_goals first | rfl | (rw [rb0, if_neg h13, if_pos h47, if_neg h52, if_neg h57]; done) | (rw [rb0, if_neg h13, if_pos h47, rbC, id_eq]; done)
        · refine v_iconst (v := 3) h 60 61 dX3_readByte_60 rfl (by decide) ?_
          refine v_goto h 61 65 dX3_readByte_61 (by decide) ?_
          refine v_iret h 65 f dX3_readByte_65 rfl (Nat.zero_le _) (Nat.zero_le _) ?_ ?_
          all_goals first | rfl | (rw [rb0, if_neg h13, if_pos h47, if_neg h52, if_pos h57]; done) | (rw [rb0, if_neg h13, if_pos h47, rbC, id_eq]; done)
  · refine v_aload_nN (i := 3) h 16 17 dX3_readByte_16 rfl rfl ld3 ?_
    refine v_ifnullN h 17 32 dX3_readByte_17 (by decide) ?_
    refine v_iconst (v := (-1)) h 32 33 dX3_readByte_32 rfl (by decide) ?_
    refine v_iret h 33 f dX3_readByte_33 rfl (Nat.zero_le _) (Nat.zero_le _) ?_ ?_
    all_goals first | rfl | (rw [rb0, if_pos h13]; done) | (rw [rb0, if_pos h13, rbC, id_eq]; done)

set_option maxRecDepth 100000 in
set_option maxHeartbeats 4000000 in
theorem k_rb1 {E : EE} {B : Nat} {S : St} {w : Wo} {n : Nat} (hm : n + 1 ≤ 14) (e7 : S 7 = nI (n + 1)) (x p : Int32) : Cd E mX3_readByte (pl E B S w) [.ref B, .int x, .int p] (some (.int (rb1 S n x p).1)) (pl E B (rb1 S n x p).2 w) := by
  refine Cd.of RX3 rfl (by decide) [some (.ref B), some (.int x), some (.int p), none] (Nat.le_of_ble_eq_true rfl) rfl (fun Γ h f hmn => ?_)
  refine v_aload_n (i := 0) h 0 1 dX3_readByte_0 rfl rfl ld0 ?_
  refine v_aload_n (i := 0) h 1 2 dX3_readByte_1 rfl rfl ld0 ?_
  refine v_get h 2 5 dX3_readByte_2 rfl fo_X3_47 pl_ln rfl ?_
  rw [e7]
  refine v_iconst (v := 1) h 5 6 dX3_readByte_5 rfl (by decide) ?_
  refine v_isub h 6 7 dX3_readByte_6 rfl ?_
  rw [nI_pred]
  refine v_callV1 h 7 10 dX3_readByte_7 rfl cb_X1_chairAt cv_X1_chairAt pl_ln lk_X3_89 (rok (by decide) (by decide)) ⟨rfl, rfl⟩ ⟨Nat.zero_le _, Nat.zero_le _⟩ (k_chairS e7 hm (c := n) (by omega)) rfl rfl (Nat.le_of_ble_eq_true rfl) ?_
  refine v_astore_n (i := 3) h 10 11 dX3_readByte_10 rfl rfl (by decide) (so3 rfl) ?_
  refine v_iload_n (i := 2) h 11 12 dX3_readByte_11 rfl rfl ld2 ?_
  refine v_iconst (v := 3) h 12 13 dX3_readByte_12 rfl (by decide) ?_
  refine v_icmp_ne h 13 16 44 dX3_readByte_13 rfl (by decide) (fun h13 => ?_) (fun h13 => ?_)
  · refine v_iload_n (i := 1) h 44 45 dX3_readByte_44 rfl rfl ld1 ?_
    refine v_bipush (v := 43) h 45 47 dX3_readByte_45 rfl (by decide) ?_
    refine v_icmp_ne h 47 50 66 dX3_readByte_47 rfl (by decide) (fun h47 => ?_) (fun h47 => ?_)
    · refine v_iload_n (i := 1) h 66 67 dX3_readByte_66 rfl rfl ld1 ?_
      refine v_bipush (v := 99) h 67 69 dX3_readByte_67 rfl (by decide) ?_
      refine v_icmp_ne h 69 72 90 dX3_readByte_69 rfl (by decide) (fun h69 => ?_) (fun h69 => ?_)
      · refine v_iload_n (i := 1) h 90 91 dX3_readByte_90 rfl rfl ld1 ?_
        refine v_bipush (v := 124) h 91 93 dX3_readByte_91 rfl (by decide) ?_
        refine v_icmp_ne h 93 96 119 dX3_readByte_93 rfl (by decide) (fun h93 => ?_) (fun h93 => ?_)
        · refine v_iload_n (i := 1) h 119 120 dX3_readByte_119 rfl rfl ld1 ?_
          refine v_bipush (v := 49) h 120 122 dX3_readByte_120 rfl (by decide) ?_
          refine v_icmp_lt h 122 125 140 dX3_readByte_122 rfl (by decide) (fun h122 => ?_) (fun h122 => ?_)
          · refine v_iconst (v := (-1)) h 140 141 dX3_readByte_140 rfl (by decide) ?_
            refine v_iret h 141 f dX3_readByte_141 rfl (Nat.zero_le _) (Nat.zero_le _) ?_ ?_
            all_goals first | rfl | (rw [rb1, if_neg h13, if_neg h47, if_neg h69]; done) | (rw [rb1, if_neg h13, if_neg h47, if_neg h69, rbC, if_neg h93, if_pos h122]; done)
          · refine v_iload_n (i := 1) h 125 126 dX3_readByte_125 rfl rfl ld1 ?_
            refine v_bipush (v := 52) h 126 128 dX3_readByte_126 rfl (by decide) ?_
            refine v_icmp_gt h 128 131 140 dX3_readByte_128 rfl (by decide) (fun h128 => ?_) (fun h128 => ?_)
            · refine v_iconst (v := (-1)) h 140 141 dX3_readByte_140 rfl (by decide) ?_
              refine v_iret h 141 f dX3_readByte_141 rfl (Nat.zero_le _) (Nat.zero_le _) ?_ ?_
              all_goals first | rfl | (rw [rb1, if_neg h13, if_neg h47, if_neg h69]; done) | (rw [rb1, if_neg h13, if_neg h47, if_neg h69, rbC, if_neg h93, if_neg h122, if_pos h128]; done)
            · refine v_aload_n (i := 0) h 131 132 dX3_readByte_131 rfl rfl ld0 ?_
              refine v_get h 132 135 dX3_readByte_132 rfl fo_X3_47 pl_ln rfl ?_
              refine v_bipush (v := 14) h 135 137 dX3_readByte_135 rfl (by decide) ?_
              refine v_icmp_lt h 137 140 142 dX3_readByte_137 rfl (by decide) (fun h137 => ?_) (fun h137 => ?_)
              · refine v_aload_n (i := 0) h 142 143 dX3_readByte_142 rfl rfl ld0 ?_
                refine v_aload_n (i := 0) h 143 144 dX3_readByte_143 rfl rfl ld0 ?_
                refine v_get h 144 147 dX3_readByte_144 rfl fo_X3_171 pl_ln rfl ?_
                refine v_iconst (v := 1) h 147 148 dX3_readByte_147 rfl (by decide) ?_
                refine v_isub h 148 149 dX3_readByte_148 rfl ?_
                refine v_iload_n (i := 1) h 149 150 dX3_readByte_149 rfl rfl ld1 ?_
                refine v_bipush (v := 48) h 150 152 dX3_readByte_150 rfl (by decide) ?_
                refine v_isub h 152 153 dX3_readByte_152 rfl ?_
                refine v_iconst (v := 0) h 153 154 dX3_readByte_153 rfl (by decide) ?_
                refine v_iconst (v := 0) h 154 155 dX3_readByte_154 rfl (by decide) ?_
                refine v_callV1 h 155 158 dX3_readByte_155 rfl cb_X1_hangChair cv_X1_hangChair pl_ln lk_X3_59 (rok (by decide) (by decide)) ⟨rfl, rfl⟩ ⟨Nat.zero_le _, Nat.zero_le _⟩ (k_hangChair e7 (lt14 e7 hm h137) _ _ _ _ (Or.inl rfl)) rfl rfl (Nat.le_of_ble_eq_true rfl) ?_
                refine v_pop h 158 159 dX3_readByte_158 rfl rfl ?_
                refine v_iconst (v := 1) h 159 160 dX3_readByte_159 rfl (by decide) ?_
                refine v_iret h 160 f dX3_readByte_160 rfl (Nat.zero_le _) (Nat.zero_le _) ?_ ?_
                all_goals first | rfl | (rw [rb1, if_neg h13, if_neg h47, if_neg h69]; done) | (rw [rb1, if_neg h13, if_neg h47, if_neg h69, rbC, if_neg h93, if_neg h122, if_neg h128, if_pos h137]; done)
              · refine v_iconst (v := (-1)) h 140 141 dX3_readByte_140 rfl (by decide) ?_
                refine v_iret h 141 f dX3_readByte_141 rfl (Nat.zero_le _) (Nat.zero_le _) ?_ ?_
                all_goals first | rfl | (rw [rb1, if_neg h13, if_neg h47, if_neg h69]; done) | (rw [rb1, if_neg h13, if_neg h47, if_neg h69, rbC, if_neg h93, if_neg h122, if_neg h128, if_neg h137]; done)
        · refine v_aload_n (i := 0) h 96 97 dX3_readByte_96 rfl rfl ld0 ?_
          refine v_get h 97 100 dX3_readByte_97 rfl fo_X3_171 pl_ln rfl ?_
          refine v_bipush (v := 7) h 100 102 dX3_readByte_100 rfl (by decide) ?_
          refine v_icmp_lt h 102 105 107 dX3_readByte_102 rfl (by decide) (fun h102 => ?_) (fun h102 => ?_)
          · refine v_aload_n (i := 0) h 107 108 dX3_readByte_107 rfl rfl ld0 ?_
            refine v_dup h 108 109 dX3_readByte_108 rfl rfl ?_
            refine v_get h 109 112 dX3_readByte_109 rfl fo_X3_171 pl_ln rfl ?_
            refine v_iconst (v := 1) h 112 113 dX3_readByte_112 rfl (by decide) ?_
            refine v_iadd h 113 114 dX3_readByte_113 rfl ?_
            refine v_putLn h 114 117 0 dX3_readByte_114 rfl fw_X3_171 rfl (by decide) ?_
            refine v_iconst (v := 0) h 117 118 dX3_readByte_117 rfl (by decide) ?_
            refine v_iret h 118 f dX3_readByte_118 rfl (Nat.zero_le _) (Nat.zero_le _) ?_ ?_
            all_goals first | rfl | (rw [rb1, if_neg h13, if_neg h47, if_neg h69]; done) | (rw [rb1, if_neg h13, if_neg h47, if_neg h69, rbC, if_pos h93, if_pos h102]; done)
          · refine v_iconst (v := (-1)) h 105 106 dX3_readByte_105 rfl (by decide) ?_
            refine v_iret h 106 f dX3_readByte_106 rfl (Nat.zero_le _) (Nat.zero_le _) ?_ ?_
            all_goals first | rfl | (rw [rb1, if_neg h13, if_neg h47, if_neg h69]; done) | (rw [rb1, if_neg h13, if_neg h47, if_neg h69, rbC, if_pos h93, if_neg h102]; done)
      · refine v_aload_n (i := 3) h 72 73 dX3_readByte_72 rfl rfl ld3 ?_
        refine v_ifnull h 73 76 dX3_readByte_73 rfl ?_
        refine v_iload_n (i := 2) h 76 77 dX3_readByte_76 rfl rfl ld2 ?_
        refine v_iconst (v := 1) h 77 78 dX3_readByte_77 rfl (by decide) ?_
        refine v_icmp_eq h 78 81 83 dX3_readByte_78 rfl (by decide) (fun h78 => ?_) (fun h78 => ?_)
        · refine v_aload_n (i := 3) h 83 84 dX3_readByte_83 rfl rfl ld3 ?_
          refine v_iconst (v := 1) h 84 85 dX3_readByte_84 rfl (by decide) ?_
          refine v_putChZ h 85 88 dX3_readByte_85 rfl fw_X3_224 (by omega) (Or.inr rfl) ?_
          refine v_iconst (v := 2) h 88 89 dX3_readByte_88 rfl (by decide) ?_
          refine v_iret h 89 f dX3_readByte_89 rfl (Nat.zero_le _) (Nat.zero_le _) ?_ ?_
          all_goals first | rfl | (rw [rb1, if_neg h13, if_neg h47, if_pos h69, if_pos h78]; done) | (rw [rb1, if_neg h13, if_neg h47, if_pos h69, if_pos h78, rbC, id_eq]; done)
        · refine v_iconst (v := (-1)) h 81 82 dX3_readByte_81 rfl (by decide) ?_
          refine v_iret h 82 f dX3_readByte_82 rfl (Nat.zero_le _) (Nat.zero_le _) ?_ ?_
          all_goals first | rfl | (rw [rb1, if_neg h13, if_neg h47, if_pos h69, if_neg h78]; done) | (rw [rb1, if_neg h13, if_neg h47, if_pos h69, if_neg h78, rbC, id_eq]; done)
    · refine v_iload_n (i := 2) h 50 51 dX3_readByte_50 rfl rfl ld2 ?_
      refine v_iconst (v := 1) h 51 52 dX3_readByte_51 rfl (by decide) ?_
      refine v_icmp_eq h 52 55 60 dX3_readByte_52 rfl (by decide) (fun h52 => ?_) (fun h52 => ?_)
      · refine v_iconst (v := 3) h 60 61 dX3_readByte_60 rfl (by decide) ?_
        refine v_goto h 61 65 dX3_readByte_61 (by decide) ?_
        refine v_iret h 65 f dX3_readByte_65 rfl (Nat.zero_le _) (Nat.zero_le _) ?_ ?_
        all_goals first | rfl | (rw [rb1, if_neg h13, if_pos h47, if_pos h52]; done) | (rw [rb1, if_neg h13, if_pos h47, rbC, id_eq]; done)
      · refine v_iload_n (i := 2) h 55 56 dX3_readByte_55 rfl rfl ld2 ?_
        refine v_iconst (v := 2) h 56 57 dX3_readByte_56 rfl (by decide) ?_
        refine v_icmp_ne h 57 60 64 dX3_readByte_57 rfl (by decide) (fun h57 => ?_) (fun h57 => ?_)
        · refine v_iconst (v := (-1)) h 64 65 dX3_readByte_64 rfl (by decide) ?_
          refine v_iret h 65 f dX3_readByte_65 rfl (Nat.zero_le _) (Nat.zero_le _) ?_ ?_
          all_goals first | rfl | (rw [rb1, if_neg h13, if_pos h47, if_neg h52, if_neg h57]; done) | (rw [rb1, if_neg h13, if_pos h47, rbC, id_eq]; done)
        · refine v_iconst (v := 3) h 60 61 dX3_readByte_60 rfl (by decide) ?_
          refine v_goto h 61 65 dX3_readByte_61 (by decide) ?_
          refine v_iret h 65 f dX3_readByte_65 rfl (Nat.zero_le _) (Nat.zero_le _) ?_ ?_
          all_goals first | rfl | (rw [rb1, if_neg h13, if_pos h47, if_neg h52, if_pos h57]; done) | (rw [rb1, if_neg h13, if_pos h47, rbC, id_eq]; done)
  · refine v_aload_n (i := 3) h 16 17 dX3_readByte_16 rfl rfl ld3 ?_
    refine v_ifnull h 17 20 dX3_readByte_17 rfl ?_
    refine v_iload_n (i := 1) h 20 21 dX3_readByte_20 rfl rfl ld1 ?_
    refine v_bipush (v := 48) h 21 23 dX3_readByte_21 rfl (by decide) ?_
    refine v_icmp_lt h 23 26 32 dX3_readByte_23 rfl (by decide) (fun h23 => ?_) (fun h23 => ?_)
    · refine v_iconst (v := (-1)) h 32 33 dX3_readByte_32 rfl (by decide) ?_
      refine v_iret h 33 f dX3_readByte_33 rfl (Nat.zero_le _) (Nat.zero_le _) ?_ ?_
      all_goals first | rfl | (rw [rb1, if_pos h13, if_pos h23]; done) | (rw [rb1, if_pos h13, rbC, id_eq]; done)
    · refine v_iload_n (i := 1) h 26 27 dX3_readByte_26 rfl rfl ld1 ?_
      refine v_bipush (v := 57) h 27 29 dX3_readByte_27 rfl (by decide) ?_
      refine v_icmp_le h 29 32 34 dX3_readByte_29 rfl (by decide) (fun h29 => ?_) (fun h29 => ?_)
      · refine v_aload_n (i := 3) h 34 35 dX3_readByte_34 rfl rfl ld3 ?_
        refine v_iload_n (i := 1) h 35 36 dX3_readByte_35 rfl rfl ld1 ?_
        refine v_bipush (v := 48) h 36 38 dX3_readByte_36 rfl (by decide) ?_
        refine v_isub h 38 39 dX3_readByte_38 rfl ?_
        refine v_putCh h 39 42 dX3_readByte_39 rfl fw_X3_104 (by omega) (by decide) ?_
        refine v_iconst (v := 0) h 42 43 dX3_readByte_42 rfl (by decide) ?_
        refine v_iret h 43 f dX3_readByte_43 rfl (Nat.zero_le _) (Nat.zero_le _) ?_ ?_
        all_goals first | rfl | (rw [rb1, if_pos h13, if_neg h23, if_pos h29]; done) | (rw [rb1, if_pos h13, rbC, id_eq]; done)
      · refine v_iconst (v := (-1)) h 32 33 dX3_readByte_32 rfl (by decide) ?_
        refine v_iret h 33 f dX3_readByte_33 rfl (Nat.zero_le _) (Nat.zero_le _) ?_ ?_
        all_goals first | rfl | (rw [rb1, if_pos h13, if_neg h23, if_neg h29]; done) | (rw [rb1, if_pos h13, rbC, id_eq]; done)

theorem k_readByte {E : EE} {B : Nat} {S : St} {w : Wo} {nc : Nat} (e7 : S 7 = nI nc) (hm : nc ≤ 14) (x p : Int32) : Cd E mX3_readByte (pl E B S w) [.ref B, .int x, .int p] (some (.int (rb S nc x p).1)) (pl E B (rb S nc x p).2 w) := by
  cases nc with
  | zero => exact k_rb0 e7 x p
  | succ n => exact k_rb1 hm e7 x p
def rtR (tx : St) (tl : Int32) : Nat → Nat → St → Int32 → Int32 × St
  | 0, _, S, p => (if p = 3 then tl else if 2 ≤ S 0 then -1 else tl, S)
  | k + 1, i, S, p => if (rb S (cnt (S 7)) (tx i) p).1 = -1 then (nI i, (rb S (cnt (S 7)) (tx i) p).2) else rtR tx tl k (i + 1) (rb S (cnt (S 7)) (tx i) p).2 (rb S (cnt (S 7)) (tx i) p).1
def Cn (S : St) : Prop := ∃ nc, nc ≤ 14 ∧ S 7 = nI nc
theorem rbC_cn {S : St} {nc : Nat} {x : Int32} (e7 : S 7 = nI nc) (hm : nc ≤ 14) : Cn (rbC S nc x).2 := by
  unfold rbC
  split
  · split
    · exact ⟨nc, hm, (upd_ne S (i := 0) (j := 7) (S 0 + 1) (by decide)).trans e7⟩
    · exact ⟨nc, hm, e7⟩
  split
  · exact ⟨nc, hm, e7⟩
  split
  · exact ⟨nc, hm, e7⟩
  split
  · rename_i h
    have := lt14 e7 hm h
    exact ⟨nc + 1, by omega, (hangS_ne (by omega)).trans (upd_self _ _ _)⟩
  · exact ⟨nc, hm, e7⟩
theorem rb_cn {S : St} {nc : Nat} {x p : Int32} (e7 : S 7 = nI nc) (hm : nc ≤ 14) : Cn (rb S nc x p).2 := by
  have h0 : Cn S := ⟨nc, hm, e7⟩
  cases nc with
  | zero =>
    show Cn (rb0 S x p).2
    unfold rb0
    repeat' split
    all_goals first | exact h0 | exact rbC_cn e7 hm
  | succ n =>
    show Cn (rb1 S n x p).2
    unfold rb1
    repeat' split
    all_goals first | exact h0 | exact rbC_cn e7 hm | exact ⟨n + 1, hm, (upd_ne _ _ (by omega)).trans e7⟩
theorem Cn.here {S : St} (h : Cn S) : S 7 = nI (cnt (S 7)) ∧ cnt (S 7) ≤ 14 := by
  obtain ⟨nc, hm, e⟩ := h
  rw [e]
  unfold cnt
  rw [nI_clamp (by omega)]
  exact ⟨rfl, hm⟩
theorem rstW_ne {S : St} {i : Nat} (h : i = 0 ∨ 7 ≤ i) : ∀ n, n ≤ 6 → rstW S n i = S i := by
  intro n
  induction n with
  | zero => intro _; rfl
  | succ n ih =>
    intro hn
    show upd (rstW S n) (1 + n) 4 i = S i
    rw [upd_ne _ _ (by omega)]
    exact ih (by omega)
theorem rst_7 {S : St} {sp : Int32} : rstS S sp 7 = nI 0 := by
  unfold rstS rst0
  rw [rstW_ne (by omega) 6 (by omega), upd_ne _ _ (by omega), upd_ne _ _ (by omega), upd_ne _ _ (by omega), upd_ne _ _ (by omega), upd_self]
  rfl
def rtF (tx : St) (n : Nat) (S1 : St) : Int32 × St := rtR tx (nI n) n 0 (rstS S1 1) 0
set_option maxRecDepth 100000 in
set_option maxHeartbeats 4000000 in
theorem k_readText {E : EE} {D : Nat} {S0 S1 : St} {Sv : Nat → St} {sc se : Int32} {tx : St} {w : Wo} {n : Nat} (hn : n ≤ 100) : Cd E mX3_readText (dl E D S0 S1 Sv sc se (nI n) tx w) [.ref D, .ref (D + 24)] (some (.int (rtF tx n S1).1)) (dl E D S0 (rtF tx n S1).2 Sv sc se (nI n) tx w) := by
  refine Cd.of RX3 rfl (by decide) [some (.ref D), some (.ref (D + 24)), none, none] (Nat.le_of_ble_eq_true rfl) rfl (fun Γ h f hmn => ?_)
  unfold rtF at f
  refine v_aload_n (i := 1) h 0 1 dX3_readText_0 rfl rfl ld1 ?_
  refine v_iconst (v := 1) h 1 2 dX3_readText_1 rfl (by decide) ?_
  refine v_callV0 h 2 5 dX3_readText_2 rfl cb_X1_reset cv_X1_reset dl_h1.ln lk_X3_16 (rok (by decide) (by decide)) ⟨rfl, rfl⟩ ⟨Nat.zero_le _, Nat.zero_le _⟩ (Cd.d1 (k_reset 1)) rfl rfl (Nat.le_of_ble_eq_true rfl) ?_
  refine v_iconst (v := 0) h 5 6 dX3_readText_5 rfl (by decide) ?_
  refine v_istore_n (i := 2) h 6 7 dX3_readText_6 rfl rfl (by decide) (so2 rfl) ?_
  refine v_iconst (v := 0) h 7 8 dX3_readText_7 rfl (by decide) ?_
  refine v_istore_n (i := 3) h 8 9 dX3_readText_8 rfl rfl (by decide) (so3 rfl) ?_
  have hR : rtR tx (nI n) n 0 (rstS S1 1) 0 = (rtR tx (nI n) n 0 (rstS S1 1) 0) := rfl
  generalize hRe : rtR tx (nI n) n 0 (rstS S1 1) 0 = R at f
  have loop : ∀ (d i : Nat) (T : St) (p : Int32), i + d = n → Cn T → rtR tx (nI n) d i T p = R → V E Γ 0 0 9 [some (.ref D), some (.ref (D + 24)), some (.int p), some (.int (nI i))] [] (dl E D S0 T Sv sc se (nI n) tx w) := by
    intro d
    induction d with
    | zero =>
      intro i T p hi hT hr
      subst hr
      obtain rfl : n = i := by omega
      refine v_iload_n (i := 3) h 9 10 dX3_readText_9 rfl rfl ld3 ?_
      refine v_aload_n (i := 0) h 10 11 dX3_readText_10 rfl rfl ld0 ?_
      refine v_get h 11 14 dX3_readText_11 rfl fo_X3_179 dl_dr rfl ?_
      refine v_icmp_ge h 14 17 51 dX3_readText_14 rfl (by decide) (fun h14 => ?_) (fun h14 => absurd (nI_le (Nat.le_refl _) (by omega)) h14)
      refine v_iload_n (i := 2) h 51 52 dX3_readText_51 rfl rfl ld2 ?_
      refine v_iconst (v := 3) h 52 53 dX3_readText_52 rfl (by decide) ?_
      refine v_icmp_eq h 53 56 64 dX3_readText_53 rfl (by decide) (fun h53 => ?_) (fun h53 => ?_)
      · refine v_aload_n (i := 0) h 64 65 dX3_readText_64 rfl rfl ld0 ?_
        refine v_get h 65 68 dX3_readText_65 rfl fo_X3_179 dl_dr rfl ?_
        refine v_goto h 68 72 dX3_readText_68 (by decide) ?_
        refine v_iret h 72 f dX3_readText_72 rfl (Nat.zero_le _) (Nat.zero_le _) ?_ ?_
        · rw [show rtR tx (nI n) 0 n T p = (if p = 3 then nI n else if 2 ≤ T 0 then -1 else nI n, T) from rfl, if_pos h53]
        · rfl
      · refine v_aload_n (i := 1) h 56 57 dX3_readText_56 rfl rfl ld1 ?_
        refine v_get h 57 60 dX3_readText_57 rfl fo_X3_171 dl_h1.ln rfl ?_
        refine v_iconst (v := 2) h 60 61 dX3_readText_60 rfl (by decide) ?_
        refine v_icmp_ge h 61 64 71 dX3_readText_61 rfl (by decide) (fun h61 => ?_) (fun h61 => ?_)
        · refine v_iconst (v := (-1)) h 71 72 dX3_readText_71 rfl (by decide) ?_
          refine v_iret h 72 f dX3_readText_72 rfl (Nat.zero_le _) (Nat.zero_le _) ?_ ?_
          · rw [show rtR tx (nI n) 0 n T p = (if p = 3 then nI n else if 2 ≤ T 0 then -1 else nI n, T) from rfl, if_neg h53, if_pos h61]
          · rfl
        · refine v_aload_n (i := 0) h 64 65 dX3_readText_64 rfl rfl ld0 ?_
          refine v_get h 65 68 dX3_readText_65 rfl fo_X3_179 dl_dr rfl ?_
          refine v_goto h 68 72 dX3_readText_68 (by decide) ?_
          refine v_iret h 72 f dX3_readText_72 rfl (Nat.zero_le _) (Nat.zero_le _) ?_ ?_
          · rw [show rtR tx (nI n) 0 n T p = (if p = 3 then nI n else if 2 ≤ T 0 then -1 else nI n, T) from rfl, if_neg h53, if_neg h61]
          · rfl
    | succ d ih =>
      intro i T p hi hT hr
      unfold rtR at hr
      refine v_iload_n (i := 3) h 9 10 dX3_readText_9 rfl rfl ld3 ?_
      refine v_aload_n (i := 0) h 10 11 dX3_readText_10 rfl rfl ld0 ?_
      refine v_get h 11 14 dX3_readText_11 rfl fo_X3_179 dl_dr rfl ?_
      refine v_icmp_ge h 14 17 51 dX3_readText_14 rfl (by decide) (fun h14 => absurd h14 (nI_ge (by omega) (by omega))) (fun h14 => ?_)
      refine v_iload_n (i := 3) h 17 18 dX3_readText_17 rfl rfl ld3 ?_
      refine v_aload_n (i := 0) h 18 19 dX3_readText_18 rfl rfl ld0 ?_
      refine v_get h 19 22 dX3_readText_19 rfl fo_X3_27 dl_dr rfl ?_
      refine v_alen h 22 23 0 dX3_readText_22 rfl dl_tx rfl (v := nI 100) rfl ?_
      refine v_icmp_ge h 23 26 51 dX3_readText_23 rfl (by decide) (fun h23 => absurd h23 (nI_ge (by omega) (by decide))) (fun h23 => ?_)
      refine v_aload_n (i := 1) h 26 27 dX3_readText_26 rfl rfl ld1 ?_
      refine v_aload_n (i := 0) h 27 28 dX3_readText_27 rfl rfl ld0 ?_
      refine v_get h 28 31 dX3_readText_28 rfl fo_X3_27 dl_dr rfl ?_
      refine v_iload_n (i := 3) h 31 32 dX3_readText_31 rfl rfl ld3 ?_
      refine v_ildT h 32 33 _ dX3_readText_32 rfl (by omega) ?_
      refine v_iload_n (i := 2) h 33 34 dX3_readText_33 rfl rfl ld2 ?_
      refine v_callS1 h 34 37 dX3_readText_34 rfl cb_X3_readByte cs_X3_readByte lk_X3_220 (rok (by decide) (by decide)) ⟨rfl, rfl⟩ ⟨Nat.zero_le _, Nat.zero_le _⟩ (Cd.d1 (k_readByte hT.here.1 hT.here.2 _ _)) rfl rfl (Nat.le_of_ble_eq_true rfl) ?_
      refine v_istore_n (i := 2) h 37 38 dX3_readText_37 rfl rfl (by decide) (so2 rfl) ?_
      refine v_iload_n (i := 2) h 38 39 dX3_readText_38 rfl rfl ld2 ?_
      refine v_iconst (v := (-1)) h 39 40 dX3_readText_39 rfl (by decide) ?_
      refine v_icmp_ne h 40 43 45 dX3_readText_40 rfl (by decide) (fun h40 => ?_) (fun h40 => ?_)
      · refine v_iinc (i := 3) h 45 48 dX3_readText_45 rfl ld3 (by first | exact iinc1 _ | rfl) (by decide) (so3 rfl) ?_
        refine v_goto h 48 9 dX3_readText_48 (by decide) ?_
        rw [if_neg h40] at hr
        exact ih (i + 1) _ _ (by omega) (rb_cn hT.here.1 hT.here.2) hr
      · refine v_iload_n (i := 3) h 43 44 dX3_readText_43 rfl rfl ld3 ?_
        refine v_iret h 44 f dX3_readText_44 rfl (Nat.zero_le _) (Nat.zero_le _) ?_ ?_
        all_goals (rw [if_pos h40] at hr; subst hr; rfl)
  exact loop n 0 _ _ (by omega) ⟨0, by omega, rst_7⟩ hRe

set_option maxRecDepth 100000 in
set_option maxHeartbeats 4000000 in
theorem k_parseNo {E : EE} {D : Nat} {S0 S1 : St} {Sv : Nat → St} {tx : St} {w : Wo} {e ks n : Nat} (he : e < 4) (hks : ks ≤ 4) (hn : n ≤ 100) {sp nc nt ne m : Nat} (hI : Inv S0 sp nc nt ne m) (hr : ¬ (rtF tx n S1).1 = -1) : Cd E mX3_parse (dl E D S0 S1 Sv (nI ks) (nI e) (nI n) tx w) [.ref D] (some (.int (-10 - (rtF tx n S1).1))) (dl E D S0 (rtF tx n S1).2 Sv (nI ks) (nI e) (nI n) tx w) := by
  refine Cd.of RX3 rfl (by decide) [some (.ref D), none] (Nat.le_of_ble_eq_true rfl) rfl (fun Γ h f hmn => ?_)
  refine v_aload_n (i := 0) h 0 1 dX3_parse_0 rfl rfl ld0 ?_
  refine v_aload_n (i := 0) h 1 2 dX3_parse_1 rfl rfl ld0 ?_
  refine v_get h 2 5 dX3_parse_2 rfl fo_X3_20 dl_dr rfl ?_
  refine v_callV1 h 5 8 dX3_parse_5 rfl cb_X3_readText cv_X3_readText dl_dr lk_X3_184 (rok (by decide) (by decide)) ⟨rfl, rfl⟩ ⟨Nat.zero_le _, Nat.zero_le _⟩ (k_readText hn) rfl rfl (Nat.le_of_ble_eq_true rfl) ?_
  refine v_istore_n (i := 1) h 8 9 dX3_parse_8 rfl rfl (by decide) (so1 rfl) ?_
  refine v_iload_n (i := 1) h 9 10 dX3_parse_9 rfl rfl ld1 ?_
  refine v_iconst (v := (-1)) h 10 11 dX3_parse_10 rfl (by decide) ?_
  refine v_icmp_eq h 11 14 19 dX3_parse_11 rfl (by decide) (fun h11 => absurd h11 hr) (fun h11 => ?_)
  refine v_bipush (v := (-10)) h 14 16 dX3_parse_14 rfl (by decide) ?_
  refine v_iload_n (i := 1) h 16 17 dX3_parse_16 rfl rfl ld1 ?_
  refine v_isub h 17 18 dX3_parse_17 rfl ?_
  exact v_iret h 18 f dX3_parse_18 rfl (Nat.zero_le _) (Nat.zero_le _) rfl rfl

set_option maxRecDepth 100000 in
set_option maxHeartbeats 4000000 in
theorem k_parseYes {E : EE} {D : Nat} {S0 S1 : St} {Sv : Nat → St} {tx : St} {w : Wo} {e ks n : Nat} (he : e < 4) (hks : ks ≤ 4) (hn : n ≤ 100) {sp nc nt ne m : Nat} (hI : Inv S0 sp nc nt ne m) (hr : (rtF tx n S1).1 = -1) {sp' nc' nt' ne' m' : Nat} (hI' : Inv (rtF tx n S1).2 sp' nc' nt' ne' m') : Cd E mX3_parse (dl E D S0 S1 Sv (nI ks) (nI e) (nI n) tx w) [.ref D] (some (.int (nI nc'))) (dl E D (cpS S0 (rtF tx n S1).2 nc' nt') (rtF tx n S1).2 (va_up Sv e (cpS (Sv e) S0 nc nt)) (nI (min 4 (ks + 1))) (nI ((e + 1) % 4)) (nI n) tx w) := by
  refine Cd.of RX3 rfl (by decide) [some (.ref D), none] (Nat.le_of_ble_eq_true rfl) rfl (fun Γ h f hmn => ?_)
  refine v_aload_n (i := 0) h 0 1 dX3_parse_0 rfl rfl ld0 ?_
  refine v_aload_n (i := 0) h 1 2 dX3_parse_1 rfl rfl ld0 ?_
  refine v_get h 2 5 dX3_parse_2 rfl fo_X3_20 dl_dr rfl ?_
  refine v_callV1 h 5 8 dX3_parse_5 rfl cb_X3_readText cv_X3_readText dl_dr lk_X3_184 (rok (by decide) (by decide)) ⟨rfl, rfl⟩ ⟨Nat.zero_le _, Nat.zero_le _⟩ (k_readText hn) rfl rfl (Nat.le_of_ble_eq_true rfl) ?_
  refine v_istore_n (i := 1) h 8 9 dX3_parse_8 rfl rfl (by decide) (so1 rfl) ?_
  refine v_iload_n (i := 1) h 9 10 dX3_parse_9 rfl rfl ld1 ?_
  refine v_iconst (v := (-1)) h 10 11 dX3_parse_10 rfl (by decide) ?_
  refine v_icmp_eq h 11 14 19 dX3_parse_11 rfl (by decide) (fun h11 => ?_) (fun h11 => absurd hr h11)
  refine v_aload_n (i := 0) h 19 20 dX3_parse_19 rfl rfl ld0 ?_
  refine v_callV0 h 20 23 dX3_parse_20 rfl cb_X3_save cv_X3_save dl_dr lk_X3_56 (rok (by decide) (by decide)) ⟨rfl, rfl⟩ ⟨Nat.zero_le _, Nat.zero_le _⟩ (k_save he hks hI) rfl rfl (Nat.le_of_ble_eq_true rfl) ?_
  refine v_aload_n (i := 0) h 23 24 dX3_parse_23 rfl rfl ld0 ?_
  refine v_get h 24 27 dX3_parse_24 rfl fo_X3_10 dl_dr rfl ?_
  refine v_aload_n (i := 0) h 27 28 dX3_parse_27 rfl rfl ld0 ?_
  refine v_get h 28 31 dX3_parse_28 rfl fo_X3_20 dl_dr rfl ?_
  refine v_callV0 h 31 34 dX3_parse_31 rfl cb_X1_copyFrom cv_X1_copyFrom dl_h0.ln lk_X3_135 (rok (by decide) (by decide)) ⟨rfl, rfl⟩ ⟨Nat.zero_le _, Nat.zero_le _⟩ (Cd.d0 (k_copyFrom dl_h1 (by omega) hI'.c7 hI'.n14 hI'.c8 hI'.n4 hI'.chz)) rfl rfl (Nat.le_of_ble_eq_true rfl) ?_
  refine v_aload_n (i := 0) h 34 35 dX3_parse_34 rfl rfl ld0 ?_
  refine v_get h 35 38 dX3_parse_35 rfl fo_X3_10 dl_dr rfl ?_
  refine v_get h 38 41 dX3_parse_38 rfl fo_X3_47 dl_h0.ln rfl ?_
  rw [(inv_cp (S1 := S0) hI').c7]
  exact v_iret h 41 f dX3_parse_41 rfl (Nat.zero_le _) (Nat.zero_le _) rfl rfl

