/-! THE LINE'S OTHER METHODS -/
def chFact (S : St) (c k : Nat) : Int32 := if k < 4 then S (13 + 8 * c + k) else if k = 4 then rkS S c else S (13 + 8 * c + (k - 1))
def cntI (S : St) (x : Int32) : Nat → Int32
  | 0 => 0
  | n + 1 => if S (13 + 8 * n + 4) = x then cntI S x n + 1 else cntI S x n
def rdI (S : St) (x : Int32) : Nat → Int32
  | 0 => 0
  | n + 1 => if S (13 + 8 * n + 4) = x then rdI S x n + S (13 + 8 * n + 1) else rdI S x n
def grI (S : St) : Nat → Int32
  | 0 => -1
  | n + 1 => if S (13 + 8 * n + 4) = 0 then (if grI S n < rkS S n then rkS S n else grI S n) else grI S n
theorem cntI_s (S : St) (x : Int32) (n : Nat) : cntI S x (n + 1) = if S (13 + 8 * n + 4) = x then cntI S x n + 1 else cntI S x n := rfl
theorem rdI_s (S : St) (x : Int32) (n : Nat) : rdI S x (n + 1) = if S (13 + 8 * n + 4) = x then rdI S x n + S (13 + 8 * n + 1) else rdI S x n := rfl
theorem grI_s (S : St) (n : Nat) : grI S (n + 1) = if S (13 + 8 * n + 4) = 0 then (if grI S n < rkS S n then rkS S n else grI S n) else grI S n := rfl
def lnFact (S : St) (nc k : Nat) : Int32 := match k with
  | 0 => S 0
  | 1 => S 7
  | 2 => S 8
  | 3 => S 9
  | 4 => cntI S 0 nc
  | 5 => cntI S 1 nc
  | 6 => cntI S 2 nc
  | 7 => rdI S 0 nc + rdI S 1 nc
  | 8 => rdI S 2 nc
  | 9 => S 10
  | 10 => S 11
  | _ => grI S nc

set_option maxRecDepth 100000 in
set_option maxHeartbeats 4000000 in
theorem k_chFact0 {E : EE} {B : Nat} {S : St} {w : Wo} {c : Nat} (hc : c < 14) : Cd E mX0_fact (pl E B S w) [.ref (B + 3 + c), .int (nI 0)] (some (.int (chFact S c 0))) (pl E B S w) := by
  refine Cd.of RX0 rfl (by decide) [some (.ref (B + 3 + c)), some (.int (nI 0))] (Nat.le_of_ble_eq_true rfl) rfl (fun Γ h f hmn => ?_)
  refine v_iload_n (i := 1) h 0 1 dX0_fact_0 rfl rfl ld1 ?_
  refine v_tableIn h 1 48 dX0_fact_1 (by decide) (by decide) (off := 47) (by decide) (by decide) ?_
  refine v_aload_n (i := 0) h 48 49 dX0_fact_48 rfl rfl ld0 ?_
  refine v_get h 49 52 dX0_fact_49 rfl fo_X0_9 (pl_ch (by assumption)) rfl ?_
  exact v_iret h 52 f dX0_fact_52 rfl (Nat.zero_le _) (Nat.zero_le _) rfl rfl

set_option maxRecDepth 100000 in
set_option maxHeartbeats 4000000 in
theorem k_chFact1 {E : EE} {B : Nat} {S : St} {w : Wo} {c : Nat} (hc : c < 14) : Cd E mX0_fact (pl E B S w) [.ref (B + 3 + c), .int (nI 1)] (some (.int (chFact S c 1))) (pl E B S w) := by
  refine Cd.of RX0 rfl (by decide) [some (.ref (B + 3 + c)), some (.int (nI 1))] (Nat.le_of_ble_eq_true rfl) rfl (fun Γ h f hmn => ?_)
  refine v_iload_n (i := 1) h 0 1 dX0_fact_0 rfl rfl ld1 ?_
  refine v_tableIn h 1 53 dX0_fact_1 (by decide) (by decide) (off := 52) (by decide) (by decide) ?_
  refine v_aload_n (i := 0) h 53 54 dX0_fact_53 rfl rfl ld0 ?_
  refine v_get h 54 57 dX0_fact_54 rfl fo_X0_15 (pl_ch (by assumption)) rfl ?_
  exact v_iret h 57 f dX0_fact_57 rfl (Nat.zero_le _) (Nat.zero_le _) rfl rfl

set_option maxRecDepth 100000 in
set_option maxHeartbeats 4000000 in
theorem k_chFact2 {E : EE} {B : Nat} {S : St} {w : Wo} {c : Nat} (hc : c < 14) : Cd E mX0_fact (pl E B S w) [.ref (B + 3 + c), .int (nI 2)] (some (.int (chFact S c 2))) (pl E B S w) := by
  refine Cd.of RX0 rfl (by decide) [some (.ref (B + 3 + c)), some (.int (nI 2))] (Nat.le_of_ble_eq_true rfl) rfl (fun Γ h f hmn => ?_)
  refine v_iload_n (i := 1) h 0 1 dX0_fact_0 rfl rfl ld1 ?_
  refine v_tableIn h 1 58 dX0_fact_1 (by decide) (by decide) (off := 57) (by decide) (by decide) ?_
  refine v_aload_n (i := 0) h 58 59 dX0_fact_58 rfl rfl ld0 ?_
  refine v_get h 59 62 dX0_fact_59 rfl fo_X0_18 (pl_ch (by assumption)) rfl ?_
  exact v_iret h 62 f dX0_fact_62 rfl (Nat.zero_le _) (Nat.zero_le _) rfl rfl

set_option maxRecDepth 100000 in
set_option maxHeartbeats 4000000 in
theorem k_chFact3 {E : EE} {B : Nat} {S : St} {w : Wo} {c : Nat} (hc : c < 14) (hz : S (13 + 8 * c + 3) = 0 ∨ S (13 + 8 * c + 3) = 1) : Cd E mX0_fact (pl E B S w) [.ref (B + 3 + c), .int (nI 3)] (some (.int (chFact S c 3))) (pl E B S w) := by
  refine Cd.of RX0 rfl (by decide) [some (.ref (B + 3 + c)), some (.int (nI 3))] (Nat.le_of_ble_eq_true rfl) rfl (fun Γ h f hmn => ?_)
  refine v_iload_n (i := 1) h 0 1 dX0_fact_0 rfl rfl ld1 ?_
  refine v_tableIn h 1 63 dX0_fact_1 (by decide) (by decide) (off := 62) (by decide) (by decide) ?_
  refine v_aload_n (i := 0) h 63 64 dX0_fact_63 rfl rfl ld0 ?_
  refine v_get h 64 67 dX0_fact_64 rfl fo_X0_21 (pl_ch (by assumption)) rfl ?_
  refine v_if_eq h 67 70 74 dX0_fact_67 rfl (by decide) (fun h67 => ?_) (fun h67 => ?_)
  · refine v_iconst (v := 0) h 74 75 dX0_fact_74 rfl (by decide) ?_
    refine v_iret h 75 f dX0_fact_75 rfl (Nat.zero_le _) (Nat.zero_le _) ?_ ?_
    · first | (exact congrArg (fun z => some (Value.int z)) (h67.symm)) | (exact congrArg (fun z => some (Value.int z)) ((hz.resolve_left h67).symm))
    · rfl
  · refine v_iconst (v := 1) h 70 71 dX0_fact_70 rfl (by decide) ?_
    refine v_goto h 71 75 dX0_fact_71 (by decide) ?_
    refine v_iret h 75 f dX0_fact_75 rfl (Nat.zero_le _) (Nat.zero_le _) ?_ ?_
    · first | (exact congrArg (fun z => some (Value.int z)) (h67.symm)) | (exact congrArg (fun z => some (Value.int z)) ((hz.resolve_left h67).symm))
    · rfl

set_option maxRecDepth 100000 in
set_option maxHeartbeats 4000000 in
theorem k_chFact4 {E : EE} {B : Nat} {S : St} {w : Wo} {c : Nat} (hc : c < 14) : Cd E mX0_fact (pl E B S w) [.ref (B + 3 + c), .int (nI 4)] (some (.int (chFact S c 4))) (pl E B S w) := by
  refine Cd.of RX0 rfl (by decide) [some (.ref (B + 3 + c)), some (.int (nI 4))] (Nat.le_of_ble_eq_true rfl) rfl (fun Γ h f hmn => ?_)
  refine v_iload_n (i := 1) h 0 1 dX0_fact_0 rfl rfl ld1 ?_
  refine v_tableIn h 1 76 dX0_fact_1 (by decide) (by decide) (off := 75) (by decide) (by decide) ?_
  refine v_aload_n (i := 0) h 76 77 dX0_fact_76 rfl rfl ld0 ?_
  refine v_callV1 h 77 80 dX0_fact_77 rfl cb_X0_rank cv_X0_rank (pl_ch (by assumption)) lk_X0_40 (rok (by decide) (by decide)) ⟨rfl, rfl⟩ ⟨Nat.zero_le _, Nat.zero_le _⟩ (k_rank hc) rfl rfl (Nat.le_of_ble_eq_true rfl) ?_
  exact v_iret h 80 f dX0_fact_80 rfl (Nat.zero_le _) (Nat.zero_le _) rfl rfl

set_option maxRecDepth 100000 in
set_option maxHeartbeats 4000000 in
theorem k_chFact5 {E : EE} {B : Nat} {S : St} {w : Wo} {c : Nat} (hc : c < 14) : Cd E mX0_fact (pl E B S w) [.ref (B + 3 + c), .int (nI 5)] (some (.int (chFact S c 5))) (pl E B S w) := by
  refine Cd.of RX0 rfl (by decide) [some (.ref (B + 3 + c)), some (.int (nI 5))] (Nat.le_of_ble_eq_true rfl) rfl (fun Γ h f hmn => ?_)
  refine v_iload_n (i := 1) h 0 1 dX0_fact_0 rfl rfl ld1 ?_
  refine v_tableIn h 1 81 dX0_fact_1 (by decide) (by decide) (off := 80) (by decide) (by decide) ?_
  refine v_aload_n (i := 0) h 81 82 dX0_fact_81 rfl rfl ld0 ?_
  refine v_get h 82 85 dX0_fact_82 rfl fo_X0_34 (pl_ch (by assumption)) rfl ?_
  exact v_iret h 85 f dX0_fact_85 rfl (Nat.zero_le _) (Nat.zero_le _) rfl rfl

set_option maxRecDepth 100000 in
set_option maxHeartbeats 4000000 in
theorem k_chFact6 {E : EE} {B : Nat} {S : St} {w : Wo} {c : Nat} (hc : c < 14) : Cd E mX0_fact (pl E B S w) [.ref (B + 3 + c), .int (nI 6)] (some (.int (chFact S c 6))) (pl E B S w) := by
  refine Cd.of RX0 rfl (by decide) [some (.ref (B + 3 + c)), some (.int (nI 6))] (Nat.le_of_ble_eq_true rfl) rfl (fun Γ h f hmn => ?_)
  refine v_iload_n (i := 1) h 0 1 dX0_fact_0 rfl rfl ld1 ?_
  refine v_tableIn h 1 86 dX0_fact_1 (by decide) (by decide) (off := 85) (by decide) (by decide) ?_
  refine v_aload_n (i := 0) h 86 87 dX0_fact_86 rfl rfl ld0 ?_
  refine v_get h 87 90 dX0_fact_87 rfl fo_X0_37 (pl_ch (by assumption)) rfl ?_
  exact v_iret h 90 f dX0_fact_90 rfl (Nat.zero_le _) (Nat.zero_le _) rfl rfl

set_option maxRecDepth 100000 in
set_option maxHeartbeats 4000000 in
theorem k_chFact7 {E : EE} {B : Nat} {S : St} {w : Wo} {c : Nat} (hc : c < 14) : Cd E mX0_fact (pl E B S w) [.ref (B + 3 + c), .int (nI 7)] (some (.int (chFact S c 7))) (pl E B S w) := by
  refine Cd.of RX0 rfl (by decide) [some (.ref (B + 3 + c)), some (.int (nI 7))] (Nat.le_of_ble_eq_true rfl) rfl (fun Γ h f hmn => ?_)
  refine v_iload_n (i := 1) h 0 1 dX0_fact_0 rfl rfl ld1 ?_
  refine v_tableIn h 1 91 dX0_fact_1 (by decide) (by decide) (off := 90) (by decide) (by decide) ?_
  refine v_aload_n (i := 0) h 91 92 dX0_fact_91 rfl rfl ld0 ?_
  refine v_get h 92 95 dX0_fact_92 rfl fo_X0_25 (pl_ch (by assumption)) rfl ?_
  exact v_iret h 95 f dX0_fact_95 rfl (Nat.zero_le _) (Nat.zero_le _) rfl rfl

set_option maxRecDepth 100000 in
set_option maxHeartbeats 4000000 in
theorem k_chFact8 {E : EE} {B : Nat} {S : St} {w : Wo} {c : Nat} (hc : c < 14) : Cd E mX0_fact (pl E B S w) [.ref (B + 3 + c), .int (nI 8)] (some (.int (chFact S c 8))) (pl E B S w) := by
  refine Cd.of RX0 rfl (by decide) [some (.ref (B + 3 + c)), some (.int (nI 8))] (Nat.le_of_ble_eq_true rfl) rfl (fun Γ h f hmn => ?_)
  refine v_iload_n (i := 1) h 0 1 dX0_fact_0 rfl rfl ld1 ?_
  refine v_tableOut h 1 96 dX0_fact_1 (by decide) (by decide) ?_
  refine v_aload_n (i := 0) h 96 97 dX0_fact_96 rfl rfl ld0 ?_
  refine v_get h 97 100 dX0_fact_97 rfl fo_X0_28 (pl_ch (by assumption)) rfl ?_
  exact v_iret h 100 f dX0_fact_100 rfl (Nat.zero_le _) (Nat.zero_le _) rfl rfl

theorem k_chFact {E : EE} {B : Nat} {S : St} {w : Wo} {c k : Nat} (hc : c < 14) (hz : S (13 + 8 * c + 3) = 0 ∨ S (13 + 8 * c + 3) = 1) (hk : k < 9) : Cd E mX0_fact (pl E B S w) [.ref (B + 3 + c), .int (nI k)] (some (.int (chFact S c k))) (pl E B S w) := by
  rcases (show k = 0 ∨ k = 1 ∨ k = 2 ∨ k = 3 ∨ k = 4 ∨ k = 5 ∨ k = 6 ∨ k = 7 ∨ k = 8 by omega) with rfl | rfl | rfl | rfl | rfl | rfl | rfl | rfl | rfl
  · exact k_chFact0 hc
  · exact k_chFact1 hc
  · exact k_chFact2 hc
  · exact k_chFact3 hc hz
  · exact k_chFact4 hc
  · exact k_chFact5 hc
  · exact k_chFact6 hc
  · exact k_chFact7 hc
  · exact k_chFact8 hc
set_option maxRecDepth 100000 in
set_option maxHeartbeats 4000000 in
theorem k_tmFact0 {E : EE} {B : Nat} {S : St} {w : Wo} {c : Nat} (hc : c < 4) : Cd E mX2_fact (pl E B S w) [.ref (B + 18 + c), .int (nI 0)] (some (.int (S (125 + 8 * c + 0)))) (pl E B S w) := by
  refine Cd.of RX2 rfl (by decide) [some (.ref (B + 18 + c)), some (.int (nI 0))] (Nat.le_of_ble_eq_true rfl) rfl (fun Γ h f hmn => ?_)
  refine v_iload_n (i := 1) h 0 1 dX2_fact_0 rfl rfl ld1 ?_
  refine v_tableIn h 1 44 dX2_fact_1 (by decide) (by decide) (off := 43) (by decide) (by decide) ?_
  refine v_aload_n (i := 0) h 44 45 dX2_fact_44 rfl rfl ld0 ?_
  refine v_get h 45 48 dX2_fact_45 rfl fo_X2_9 (pl_tm (by assumption)) rfl ?_
  exact v_iret h 48 f dX2_fact_48 rfl (Nat.zero_le _) (Nat.zero_le _) rfl rfl

set_option maxRecDepth 100000 in
set_option maxHeartbeats 4000000 in
theorem k_tmFact1 {E : EE} {B : Nat} {S : St} {w : Wo} {c : Nat} (hc : c < 4) : Cd E mX2_fact (pl E B S w) [.ref (B + 18 + c), .int (nI 1)] (some (.int (S (125 + 8 * c + 1)))) (pl E B S w) := by
  refine Cd.of RX2 rfl (by decide) [some (.ref (B + 18 + c)), some (.int (nI 1))] (Nat.le_of_ble_eq_true rfl) rfl (fun Γ h f hmn => ?_)
  refine v_iload_n (i := 1) h 0 1 dX2_fact_0 rfl rfl ld1 ?_
  refine v_tableIn h 1 49 dX2_fact_1 (by decide) (by decide) (off := 48) (by decide) (by decide) ?_
  refine v_aload_n (i := 0) h 49 50 dX2_fact_49 rfl rfl ld0 ?_
  refine v_get h 50 53 dX2_fact_50 rfl fo_X2_15 (pl_tm (by assumption)) rfl ?_
  exact v_iret h 53 f dX2_fact_53 rfl (Nat.zero_le _) (Nat.zero_le _) rfl rfl

set_option maxRecDepth 100000 in
set_option maxHeartbeats 4000000 in
theorem k_tmFact2 {E : EE} {B : Nat} {S : St} {w : Wo} {c : Nat} (hc : c < 4) : Cd E mX2_fact (pl E B S w) [.ref (B + 18 + c), .int (nI 2)] (some (.int (S (125 + 8 * c + 2)))) (pl E B S w) := by
  refine Cd.of RX2 rfl (by decide) [some (.ref (B + 18 + c)), some (.int (nI 2))] (Nat.le_of_ble_eq_true rfl) rfl (fun Γ h f hmn => ?_)
  refine v_iload_n (i := 1) h 0 1 dX2_fact_0 rfl rfl ld1 ?_
  refine v_tableIn h 1 54 dX2_fact_1 (by decide) (by decide) (off := 53) (by decide) (by decide) ?_
  refine v_aload_n (i := 0) h 54 55 dX2_fact_54 rfl rfl ld0 ?_
  refine v_get h 55 58 dX2_fact_55 rfl fo_X2_30 (pl_tm (by assumption)) rfl ?_
  exact v_iret h 58 f dX2_fact_58 rfl (Nat.zero_le _) (Nat.zero_le _) rfl rfl

set_option maxRecDepth 100000 in
set_option maxHeartbeats 4000000 in
theorem k_tmFact3 {E : EE} {B : Nat} {S : St} {w : Wo} {c : Nat} (hc : c < 4) : Cd E mX2_fact (pl E B S w) [.ref (B + 18 + c), .int (nI 3)] (some (.int (S (125 + 8 * c + 3)))) (pl E B S w) := by
  refine Cd.of RX2 rfl (by decide) [some (.ref (B + 18 + c)), some (.int (nI 3))] (Nat.le_of_ble_eq_true rfl) rfl (fun Γ h f hmn => ?_)
  refine v_iload_n (i := 1) h 0 1 dX2_fact_0 rfl rfl ld1 ?_
  refine v_tableIn h 1 59 dX2_fact_1 (by decide) (by decide) (off := 58) (by decide) (by decide) ?_
  refine v_aload_n (i := 0) h 59 60 dX2_fact_59 rfl rfl ld0 ?_
  refine v_get h 60 63 dX2_fact_60 rfl fo_X2_33 (pl_tm (by assumption)) rfl ?_
  exact v_iret h 63 f dX2_fact_63 rfl (Nat.zero_le _) (Nat.zero_le _) rfl rfl

set_option maxRecDepth 100000 in
set_option maxHeartbeats 4000000 in
theorem k_tmFact4 {E : EE} {B : Nat} {S : St} {w : Wo} {c : Nat} (hc : c < 4) : Cd E mX2_fact (pl E B S w) [.ref (B + 18 + c), .int (nI 4)] (some (.int (S (125 + 8 * c + 4)))) (pl E B S w) := by
  refine Cd.of RX2 rfl (by decide) [some (.ref (B + 18 + c)), some (.int (nI 4))] (Nat.le_of_ble_eq_true rfl) rfl (fun Γ h f hmn => ?_)
  refine v_iload_n (i := 1) h 0 1 dX2_fact_0 rfl rfl ld1 ?_
  refine v_tableIn h 1 64 dX2_fact_1 (by decide) (by decide) (off := 63) (by decide) (by decide) ?_
  refine v_aload_n (i := 0) h 64 65 dX2_fact_64 rfl rfl ld0 ?_
  refine v_get h 65 68 dX2_fact_65 rfl fo_X2_36 (pl_tm (by assumption)) rfl ?_
  exact v_iret h 68 f dX2_fact_68 rfl (Nat.zero_le _) (Nat.zero_le _) rfl rfl

set_option maxRecDepth 100000 in
set_option maxHeartbeats 4000000 in
theorem k_tmFact5 {E : EE} {B : Nat} {S : St} {w : Wo} {c : Nat} (hc : c < 4) : Cd E mX2_fact (pl E B S w) [.ref (B + 18 + c), .int (nI 5)] (some (.int (S (125 + 8 * c + 5)))) (pl E B S w) := by
  refine Cd.of RX2 rfl (by decide) [some (.ref (B + 18 + c)), some (.int (nI 5))] (Nat.le_of_ble_eq_true rfl) rfl (fun Γ h f hmn => ?_)
  refine v_iload_n (i := 1) h 0 1 dX2_fact_0 rfl rfl ld1 ?_
  refine v_tableIn h 1 69 dX2_fact_1 (by decide) (by decide) (off := 68) (by decide) (by decide) ?_
  refine v_aload_n (i := 0) h 69 70 dX2_fact_69 rfl rfl ld0 ?_
  refine v_get h 70 73 dX2_fact_70 rfl fo_X2_18 (pl_tm (by assumption)) rfl ?_
  exact v_iret h 73 f dX2_fact_73 rfl (Nat.zero_le _) (Nat.zero_le _) rfl rfl

set_option maxRecDepth 100000 in
set_option maxHeartbeats 4000000 in
theorem k_tmFact6 {E : EE} {B : Nat} {S : St} {w : Wo} {c : Nat} (hc : c < 4) : Cd E mX2_fact (pl E B S w) [.ref (B + 18 + c), .int (nI 6)] (some (.int (S (125 + 8 * c + 6)))) (pl E B S w) := by
  refine Cd.of RX2 rfl (by decide) [some (.ref (B + 18 + c)), some (.int (nI 6))] (Nat.le_of_ble_eq_true rfl) rfl (fun Γ h f hmn => ?_)
  refine v_iload_n (i := 1) h 0 1 dX2_fact_0 rfl rfl ld1 ?_
  refine v_tableIn h 1 74 dX2_fact_1 (by decide) (by decide) (off := 73) (by decide) (by decide) ?_
  refine v_aload_n (i := 0) h 74 75 dX2_fact_74 rfl rfl ld0 ?_
  refine v_get h 75 78 dX2_fact_75 rfl fo_X2_21 (pl_tm (by assumption)) rfl ?_
  exact v_iret h 78 f dX2_fact_78 rfl (Nat.zero_le _) (Nat.zero_le _) rfl rfl

set_option maxRecDepth 100000 in
set_option maxHeartbeats 4000000 in
theorem k_tmFact7 {E : EE} {B : Nat} {S : St} {w : Wo} {c : Nat} (hc : c < 4) : Cd E mX2_fact (pl E B S w) [.ref (B + 18 + c), .int (nI 7)] (some (.int (S (125 + 8 * c + 7)))) (pl E B S w) := by
  refine Cd.of RX2 rfl (by decide) [some (.ref (B + 18 + c)), some (.int (nI 7))] (Nat.le_of_ble_eq_true rfl) rfl (fun Γ h f hmn => ?_)
  refine v_iload_n (i := 1) h 0 1 dX2_fact_0 rfl rfl ld1 ?_
  refine v_tableOut h 1 79 dX2_fact_1 (by decide) (by decide) ?_
  refine v_aload_n (i := 0) h 79 80 dX2_fact_79 rfl rfl ld0 ?_
  refine v_get h 80 83 dX2_fact_80 rfl fo_X2_24 (pl_tm (by assumption)) rfl ?_
  exact v_iret h 83 f dX2_fact_83 rfl (Nat.zero_le _) (Nat.zero_le _) rfl rfl

theorem k_tmFact {E : EE} {B : Nat} {S : St} {w : Wo} {c k : Nat} (hc : c < 4) (hk : k < 8) : Cd E mX2_fact (pl E B S w) [.ref (B + 18 + c), .int (nI k)] (some (.int (S (125 + 8 * c + k)))) (pl E B S w) := by
  rcases (show k = 0 ∨ k = 1 ∨ k = 2 ∨ k = 3 ∨ k = 4 ∨ k = 5 ∨ k = 6 ∨ k = 7 by omega) with rfl | rfl | rfl | rfl | rfl | rfl | rfl | rfl
  · exact k_tmFact0 hc
  · exact k_tmFact1 hc
  · exact k_tmFact2 hc
  · exact k_tmFact3 hc
  · exact k_tmFact4 hc
  · exact k_tmFact5 hc
  · exact k_tmFact6 hc
  · exact k_tmFact7 hc
set_option maxRecDepth 100000 in
set_option maxHeartbeats 4000000 in
theorem k_chairsIn {E : EE} {B : Nat} {S : St} {w : Wo} {nc : Nat} (e7 : S 7 = nI nc) (hm : nc ≤ 14) (x : Int32) : Cd E mX1_chairsIn (pl E B S w) [.ref B, .int x] (some (.int (cntI S x nc))) (pl E B S w) := by
  refine Cd.of RX1 rfl (by decide) [some (.ref B), some (.int x), none, none, none] (Nat.le_of_ble_eq_true rfl) rfl (fun Γ h f hmn => ?_)
  refine v_iconst (v := 0) h 0 1 dX1_chairsIn_0 rfl (by decide) ?_
  refine v_istore_n (i := 2) h 1 2 dX1_chairsIn_1 rfl rfl (by decide) (so2 rfl) ?_
  refine v_iconst (v := 0) h 2 3 dX1_chairsIn_2 rfl (by decide) ?_
  refine v_istore_n (i := 3) h 3 4 dX1_chairsIn_3 rfl rfl (by decide) (so3 rfl) ?_
  have loop4 : ∀ d j, j + d = nc → V E Γ 0 0 4 [some (.ref B), some (.int x), some (.int (cntI S x j)), some (.int (nI j)), none] [] (pl E B S w) := by
    intro d
    induction d with
    | zero =>
      intro j hj
      obtain rfl : nc = j := by omega
      refine v_iload_n (i := 3) h 4 5 dX1_chairsIn_4 rfl rfl ld3 ?_
      refine v_aload_n (i := 0) h 5 6 dX1_chairsIn_5 rfl rfl ld0 ?_
      refine v_get h 6 9 dX1_chairsIn_6 rfl fo_X1_39 pl_ln rfl ?_
      refine v_icmp_ge h 9 12 42 dX1_chairsIn_9 rfl (by decide) (fun h9 => ?_) (fun h9 => absurd (by rw [e7]; exact nI_le (Nat.le_refl _) (by omega)) h9)
      refine v_iload_n (i := 2) h 42 43 dX1_chairsIn_42 rfl rfl ld2 ?_
      exact v_iret h 43 f dX1_chairsIn_43 rfl (Nat.zero_le _) (Nat.zero_le _) rfl rfl
    | succ d ih =>
      intro j hj
      have hj4 : j < 14 := by omega
      refine v_iload_n (i := 3) h 4 5 dX1_chairsIn_4 rfl rfl ld3 ?_
      refine v_aload_n (i := 0) h 5 6 dX1_chairsIn_5 rfl rfl ld0 ?_
      refine v_get h 6 9 dX1_chairsIn_6 rfl fo_X1_39 pl_ln rfl ?_
      refine v_icmp_ge h 9 12 42 dX1_chairsIn_9 rfl (by decide) (fun h9 => absurd h9 (by rw [e7]; exact nI_ge (by omega) (by omega))) (fun h9 => ?_)
      refine v_aload_n (i := 0) h 12 13 dX1_chairsIn_12 rfl rfl ld0 ?_
      refine v_iload_n (i := 3) h 13 14 dX1_chairsIn_13 rfl rfl ld3 ?_
      refine v_callV1 h 14 17 dX1_chairsIn_14 rfl cb_X1_chairAt cv_X1_chairAt pl_ln lk_X1_54 (rok (by decide) (by decide)) ⟨rfl, rfl⟩ ⟨Nat.zero_le _, Nat.zero_le _⟩ (k_chairS e7 hm (c := j) (by omega)) rfl rfl (Nat.le_of_ble_eq_true rfl) ?_
      refine v_astore (i := 4) h 17 19 dX1_chairsIn_17 rfl (by decide) (so4 rfl) ?_
      refine v_aload (i := 4) h 19 21 dX1_chairsIn_19 rfl ld4 ?_
      refine v_ifnull h 21 24 dX1_chairsIn_21 rfl ?_
      refine v_aload (i := 4) h 24 26 dX1_chairsIn_24 rfl ld4 ?_
      refine v_get h 26 29 dX1_chairsIn_26 rfl fo_X1_103 (pl_ch (by assumption)) rfl ?_
      refine v_iload_n (i := 1) h 29 30 dX1_chairsIn_29 rfl rfl ld1 ?_
      refine v_icmp_ne h 30 33 36 dX1_chairsIn_30 rfl (by decide) (fun h30 => ?_) (fun h30 => ?_)
      · refine v_iinc (i := 3) h 36 39 dX1_chairsIn_36 rfl ld3 (by first | exact iinc1 _ | rfl) (by decide) (so3 rfl) ?_
        refine v_goto h 39 4 dX1_chairsIn_39 (by decide) ?_
        have q := ih (j + 1) (by omega)
        rw [cntI_s, if_neg h30] at q
        exact V.weakS (by simp [lsub]) q
      · refine v_iinc (i := 2) h 33 36 dX1_chairsIn_33 rfl ld2 (by first | exact iinc1 _ | rfl) (by decide) (so2 rfl) ?_
        refine v_iinc (i := 3) h 36 39 dX1_chairsIn_36 rfl ld3 (by first | exact iinc1 _ | rfl) (by decide) (so3 rfl) ?_
        refine v_goto h 39 4 dX1_chairsIn_39 (by decide) ?_
        have q := ih (j + 1) (by omega)
        rw [cntI_s, if_pos h30] at q
        exact V.weakS (by simp [lsub]) q
  exact loop4 nc 0 (by omega)

set_option maxRecDepth 100000 in
set_option maxHeartbeats 4000000 in
theorem k_ridersIn {E : EE} {B : Nat} {S : St} {w : Wo} {nc : Nat} (e7 : S 7 = nI nc) (hm : nc ≤ 14) (x : Int32) : Cd E mX1_ridersIn (pl E B S w) [.ref B, .int x] (some (.int (rdI S x nc))) (pl E B S w) := by
  refine Cd.of RX1 rfl (by decide) [some (.ref B), some (.int x), none, none, none] (Nat.le_of_ble_eq_true rfl) rfl (fun Γ h f hmn => ?_)
  refine v_iconst (v := 0) h 0 1 dX1_ridersIn_0 rfl (by decide) ?_
  refine v_istore_n (i := 2) h 1 2 dX1_ridersIn_1 rfl rfl (by decide) (so2 rfl) ?_
  refine v_iconst (v := 0) h 2 3 dX1_ridersIn_2 rfl (by decide) ?_
  refine v_istore_n (i := 3) h 3 4 dX1_ridersIn_3 rfl rfl (by decide) (so3 rfl) ?_
  have loop4 : ∀ d j, j + d = nc → V E Γ 0 0 4 [some (.ref B), some (.int x), some (.int (rdI S x j)), some (.int (nI j)), none] [] (pl E B S w) := by
    intro d
    induction d with
    | zero =>
      intro j hj
      obtain rfl : nc = j := by omega
      refine v_iload_n (i := 3) h 4 5 dX1_ridersIn_4 rfl rfl ld3 ?_
      refine v_aload_n (i := 0) h 5 6 dX1_ridersIn_5 rfl rfl ld0 ?_
      refine v_get h 6 9 dX1_ridersIn_6 rfl fo_X1_39 pl_ln rfl ?_
      refine v_icmp_ge h 9 12 47 dX1_ridersIn_9 rfl (by decide) (fun h9 => ?_) (fun h9 => absurd (by rw [e7]; exact nI_le (Nat.le_refl _) (by omega)) h9)
      refine v_iload_n (i := 2) h 47 48 dX1_ridersIn_47 rfl rfl ld2 ?_
      exact v_iret h 48 f dX1_ridersIn_48 rfl (Nat.zero_le _) (Nat.zero_le _) rfl rfl
    | succ d ih =>
      intro j hj
      have hj4 : j < 14 := by omega
      refine v_iload_n (i := 3) h 4 5 dX1_ridersIn_4 rfl rfl ld3 ?_
      refine v_aload_n (i := 0) h 5 6 dX1_ridersIn_5 rfl rfl ld0 ?_
      refine v_get h 6 9 dX1_ridersIn_6 rfl fo_X1_39 pl_ln rfl ?_
      refine v_icmp_ge h 9 12 47 dX1_ridersIn_9 rfl (by decide) (fun h9 => absurd h9 (by rw [e7]; exact nI_ge (by omega) (by omega))) (fun h9 => ?_)
      refine v_aload_n (i := 0) h 12 13 dX1_ridersIn_12 rfl rfl ld0 ?_
      refine v_iload_n (i := 3) h 13 14 dX1_ridersIn_13 rfl rfl ld3 ?_
      refine v_callV1 h 14 17 dX1_ridersIn_14 rfl cb_X1_chairAt cv_X1_chairAt pl_ln lk_X1_54 (rok (by decide) (by decide)) ⟨rfl, rfl⟩ ⟨Nat.zero_le _, Nat.zero_le _⟩ (k_chairS e7 hm (c := j) (by omega)) rfl rfl (Nat.le_of_ble_eq_true rfl) ?_
      refine v_astore (i := 4) h 17 19 dX1_ridersIn_17 rfl (by decide) (so4 rfl) ?_
      refine v_aload (i := 4) h 19 21 dX1_ridersIn_19 rfl ld4 ?_
      refine v_ifnull h 21 24 dX1_ridersIn_21 rfl ?_
      refine v_aload (i := 4) h 24 26 dX1_ridersIn_24 rfl ld4 ?_
      refine v_get h 26 29 dX1_ridersIn_26 rfl fo_X1_103 (pl_ch (by assumption)) rfl ?_
      refine v_iload_n (i := 1) h 29 30 dX1_ridersIn_29 rfl rfl ld1 ?_
      refine v_icmp_ne h 30 33 41 dX1_ridersIn_30 rfl (by decide) (fun h30 => ?_) (fun h30 => ?_)
      · refine v_iinc (i := 3) h 41 44 dX1_ridersIn_41 rfl ld3 (by first | exact iinc1 _ | rfl) (by decide) (so3 rfl) ?_
        refine v_goto h 44 4 dX1_ridersIn_44 (by decide) ?_
        have q := ih (j + 1) (by omega)
        rw [rdI_s, if_neg h30] at q
        exact V.weakS (by simp [lsub]) q
      · refine v_iload_n (i := 2) h 33 34 dX1_ridersIn_33 rfl rfl ld2 ?_
        refine v_aload (i := 4) h 34 36 dX1_ridersIn_34 rfl ld4 ?_
        refine v_get h 36 39 dX1_ridersIn_36 rfl fo_X1_159 (pl_ch (by assumption)) rfl ?_
        refine v_iadd h 39 40 dX1_ridersIn_39 rfl ?_
        refine v_istore_n (i := 2) h 40 41 dX1_ridersIn_40 rfl rfl (by decide) (so2 rfl) ?_
        refine v_iinc (i := 3) h 41 44 dX1_ridersIn_41 rfl ld3 (by first | exact iinc1 _ | rfl) (by decide) (so3 rfl) ?_
        refine v_goto h 44 4 dX1_ridersIn_44 (by decide) ?_
        have q := ih (j + 1) (by omega)
        rw [rdI_s, if_pos h30] at q
        exact V.weakS (by simp [lsub]) q
  exact loop4 nc 0 (by omega)

set_option maxRecDepth 100000 in
set_option maxHeartbeats 4000000 in
theorem k_greatest {E : EE} {B : Nat} {S : St} {w : Wo} {nc : Nat} (e7 : S 7 = nI nc) (hm : nc ≤ 14) : Cd E mX1_greatestRank (pl E B S w) [.ref B] (some (.int (grI S nc))) (pl E B S w) := by
  refine Cd.of RX1 rfl (by decide) [some (.ref B), none, none, none] (Nat.le_of_ble_eq_true rfl) rfl (fun Γ h f hmn => ?_)
  refine v_iconst (v := (-1)) h 0 1 dX1_greatestRank_0 rfl (by decide) ?_
  refine v_istore_n (i := 1) h 1 2 dX1_greatestRank_1 rfl rfl (by decide) (so1 rfl) ?_
  refine v_iconst (v := 0) h 2 3 dX1_greatestRank_2 rfl (by decide) ?_
  refine v_istore_n (i := 2) h 3 4 dX1_greatestRank_3 rfl rfl (by decide) (so2 rfl) ?_
  have loop4 : ∀ d j, j + d = nc → V E Γ 0 0 4 [some (.ref B), some (.int (grI S j)), some (.int (nI j)), none] [] (pl E B S w) := by
    intro d
    induction d with
    | zero =>
      intro j hj
      obtain rfl : nc = j := by omega
      refine v_iload_n (i := 2) h 4 5 dX1_greatestRank_4 rfl rfl ld2 ?_
      refine v_aload_n (i := 0) h 5 6 dX1_greatestRank_5 rfl rfl ld0 ?_
      refine v_get h 6 9 dX1_greatestRank_6 rfl fo_X1_39 pl_ln rfl ?_
      refine v_icmp_ge h 9 12 44 dX1_greatestRank_9 rfl (by decide) (fun h9 => ?_) (fun h9 => absurd (by rw [e7]; exact nI_le (Nat.le_refl _) (by omega)) h9)
      refine v_iload_n (i := 1) h 44 45 dX1_greatestRank_44 rfl rfl ld1 ?_
      exact v_iret h 45 f dX1_greatestRank_45 rfl (Nat.zero_le _) (Nat.zero_le _) rfl rfl
    | succ d ih =>
      intro j hj
      have hj4 : j < 14 := by omega
      refine v_iload_n (i := 2) h 4 5 dX1_greatestRank_4 rfl rfl ld2 ?_
      refine v_aload_n (i := 0) h 5 6 dX1_greatestRank_5 rfl rfl ld0 ?_
      refine v_get h 6 9 dX1_greatestRank_6 rfl fo_X1_39 pl_ln rfl ?_
      refine v_icmp_ge h 9 12 44 dX1_greatestRank_9 rfl (by decide) (fun h9 => absurd h9 (by rw [e7]; exact nI_ge (by omega) (by omega))) (fun h9 => ?_)
      refine v_aload_n (i := 0) h 12 13 dX1_greatestRank_12 rfl rfl ld0 ?_
      refine v_iload_n (i := 2) h 13 14 dX1_greatestRank_13 rfl rfl ld2 ?_
      refine v_callV1 h 14 17 dX1_greatestRank_14 rfl cb_X1_chairAt cv_X1_chairAt pl_ln lk_X1_54 (rok (by decide) (by decide)) ⟨rfl, rfl⟩ ⟨Nat.zero_le _, Nat.zero_le _⟩ (k_chairS e7 hm (c := j) (by omega)) rfl rfl (Nat.le_of_ble_eq_true rfl) ?_
      refine v_astore_n (i := 3) h 17 18 dX1_greatestRank_17 rfl rfl (by decide) (so3 rfl) ?_
      refine v_aload_n (i := 3) h 18 19 dX1_greatestRank_18 rfl rfl ld3 ?_
      refine v_ifnull h 19 22 dX1_greatestRank_19 rfl ?_
      refine v_aload_n (i := 3) h 22 23 dX1_greatestRank_22 rfl rfl ld3 ?_
      refine v_get h 23 26 dX1_greatestRank_23 rfl fo_X1_103 (pl_ch (by assumption)) rfl ?_
      refine v_if_ne h 26 29 38 dX1_greatestRank_26 rfl (by decide) (fun h26 => ?_) (fun h26 => ?_)
      · refine v_iinc (i := 2) h 38 41 dX1_greatestRank_38 rfl ld2 (by first | exact iinc1 _ | rfl) (by decide) (so2 rfl) ?_
        refine v_goto h 41 4 dX1_greatestRank_41 (by decide) ?_
        have q := ih (j + 1) (by omega)
        rw [grI_s, if_neg h26] at q
        exact V.weakS (by simp [lsub]) q
      · refine v_iload_n (i := 1) h 29 30 dX1_greatestRank_29 rfl rfl ld1 ?_
        refine v_aload_n (i := 3) h 30 31 dX1_greatestRank_30 rfl rfl ld3 ?_
        refine v_callV1 h 31 34 dX1_greatestRank_31 rfl cb_X0_rank cv_X0_rank (pl_ch hj4) lk_X1_162 (rok (by decide) (by decide)) ⟨rfl, rfl⟩ ⟨Nat.zero_le _, Nat.zero_le _⟩ (k_rank hj4) rfl rfl (Nat.le_of_ble_eq_true rfl) ?_
        refine v_mmax h 34 37 dX1_greatestRank_34 rfl lk_X1_69 ⟨Nat.zero_le _, Nat.zero_le _⟩ (by decide) (Nat.le_of_ble_eq_true rfl) ?_
        refine v_istore_n (i := 1) h 37 38 dX1_greatestRank_37 rfl rfl (by decide) (so1 rfl) ?_
        refine v_iinc (i := 2) h 38 41 dX1_greatestRank_38 rfl ld2 (by first | exact iinc1 _ | rfl) (by decide) (so2 rfl) ?_
        refine v_goto h 41 4 dX1_greatestRank_41 (by decide) ?_
        have q := ih (j + 1) (by omega)
        rw [grI_s, if_pos h26] at q
        exact V.weakS (by simp [lsub]) q
  exact loop4 nc 0 (by omega)

set_option maxRecDepth 100000 in
set_option maxHeartbeats 4000000 in
theorem k_lnFact0 {E : EE} {B : Nat} {S : St} {w : Wo} {nc : Nat} (e7 : S 7 = nI nc) (hm : nc ≤ 14) : Cd E mX1_fact (pl E B S w) [.ref B, .int (nI 0)] (some (.int (lnFact S nc 0))) (pl E B S w) := by
  refine Cd.of RX1 rfl (by decide) [some (.ref B), some (.int (nI 0))] (Nat.le_of_ble_eq_true rfl) rfl (fun Γ h f hmn => ?_)
  refine v_iload_n (i := 1) h 0 1 dX1_fact_0 rfl rfl ld1 ?_
  refine v_tableIn h 1 60 dX1_fact_1 (by decide) (by decide) (off := 59) (by decide) (by decide) ?_
  refine v_aload_n (i := 0) h 60 61 dX1_fact_60 rfl rfl ld0 ?_
  refine v_get h 61 64 dX1_fact_61 rfl fo_X1_32 pl_ln rfl ?_
  exact v_iret h 64 f dX1_fact_64 rfl (Nat.zero_le _) (Nat.zero_le _) rfl rfl

set_option maxRecDepth 100000 in
set_option maxHeartbeats 4000000 in
theorem k_lnFact1 {E : EE} {B : Nat} {S : St} {w : Wo} {nc : Nat} (e7 : S 7 = nI nc) (hm : nc ≤ 14) : Cd E mX1_fact (pl E B S w) [.ref B, .int (nI 1)] (some (.int (lnFact S nc 1))) (pl E B S w) := by
  refine Cd.of RX1 rfl (by decide) [some (.ref B), some (.int (nI 1))] (Nat.le_of_ble_eq_true rfl) rfl (fun Γ h f hmn => ?_)
  refine v_iload_n (i := 1) h 0 1 dX1_fact_0 rfl rfl ld1 ?_
  refine v_tableIn h 1 65 dX1_fact_1 (by decide) (by decide) (off := 64) (by decide) (by decide) ?_
  refine v_aload_n (i := 0) h 65 66 dX1_fact_65 rfl rfl ld0 ?_
  refine v_get h 66 69 dX1_fact_66 rfl fo_X1_39 pl_ln rfl ?_
  exact v_iret h 69 f dX1_fact_69 rfl (Nat.zero_le _) (Nat.zero_le _) rfl rfl

set_option maxRecDepth 100000 in
set_option maxHeartbeats 4000000 in
theorem k_lnFact2 {E : EE} {B : Nat} {S : St} {w : Wo} {nc : Nat} (e7 : S 7 = nI nc) (hm : nc ≤ 14) : Cd E mX1_fact (pl E B S w) [.ref B, .int (nI 2)] (some (.int (lnFact S nc 2))) (pl E B S w) := by
  refine Cd.of RX1 rfl (by decide) [some (.ref B), some (.int (nI 2))] (Nat.le_of_ble_eq_true rfl) rfl (fun Γ h f hmn => ?_)
  refine v_iload_n (i := 1) h 0 1 dX1_fact_0 rfl rfl ld1 ?_
  refine v_tableIn h 1 70 dX1_fact_1 (by decide) (by decide) (off := 69) (by decide) (by decide) ?_
  refine v_aload_n (i := 0) h 70 71 dX1_fact_70 rfl rfl ld0 ?_
  refine v_get h 71 74 dX1_fact_71 rfl fo_X1_42 pl_ln rfl ?_
  exact v_iret h 74 f dX1_fact_74 rfl (Nat.zero_le _) (Nat.zero_le _) rfl rfl

set_option maxRecDepth 100000 in
set_option maxHeartbeats 4000000 in
theorem k_lnFact3 {E : EE} {B : Nat} {S : St} {w : Wo} {nc : Nat} (e7 : S 7 = nI nc) (hm : nc ≤ 14) : Cd E mX1_fact (pl E B S w) [.ref B, .int (nI 3)] (some (.int (lnFact S nc 3))) (pl E B S w) := by
  refine Cd.of RX1 rfl (by decide) [some (.ref B), some (.int (nI 3))] (Nat.le_of_ble_eq_true rfl) rfl (fun Γ h f hmn => ?_)
  refine v_iload_n (i := 1) h 0 1 dX1_fact_0 rfl rfl ld1 ?_
  refine v_tableIn h 1 75 dX1_fact_1 (by decide) (by decide) (off := 74) (by decide) (by decide) ?_
  refine v_aload_n (i := 0) h 75 76 dX1_fact_75 rfl rfl ld0 ?_
  refine v_get h 76 79 dX1_fact_76 rfl fo_X1_36 pl_ln rfl ?_
  exact v_iret h 79 f dX1_fact_79 rfl (Nat.zero_le _) (Nat.zero_le _) rfl rfl

set_option maxRecDepth 100000 in
set_option maxHeartbeats 4000000 in
theorem k_lnFact4 {E : EE} {B : Nat} {S : St} {w : Wo} {nc : Nat} (e7 : S 7 = nI nc) (hm : nc ≤ 14) : Cd E mX1_fact (pl E B S w) [.ref B, .int (nI 4)] (some (.int (lnFact S nc 4))) (pl E B S w) := by
  refine Cd.of RX1 rfl (by decide) [some (.ref B), some (.int (nI 4))] (Nat.le_of_ble_eq_true rfl) rfl (fun Γ h f hmn => ?_)
  refine v_iload_n (i := 1) h 0 1 dX1_fact_0 rfl rfl ld1 ?_
  refine v_tableIn h 1 80 dX1_fact_1 (by decide) (by decide) (off := 79) (by decide) (by decide) ?_
  refine v_aload_n (i := 0) h 80 81 dX1_fact_80 rfl rfl ld0 ?_
  refine v_iconst (v := 0) h 81 82 dX1_fact_81 rfl (by decide) ?_
  refine v_callV1 h 82 85 dX1_fact_82 rfl cb_X1_chairsIn cv_X1_chairsIn pl_ln lk_X1_166 (rok (by decide) (by decide)) ⟨rfl, rfl⟩ ⟨Nat.zero_le _, Nat.zero_le _⟩ (k_chairsIn e7 hm 0) rfl rfl (Nat.le_of_ble_eq_true rfl) ?_
  exact v_iret h 85 f dX1_fact_85 rfl (Nat.zero_le _) (Nat.zero_le _) rfl rfl

set_option maxRecDepth 100000 in
set_option maxHeartbeats 4000000 in
theorem k_lnFact5 {E : EE} {B : Nat} {S : St} {w : Wo} {nc : Nat} (e7 : S 7 = nI nc) (hm : nc ≤ 14) : Cd E mX1_fact (pl E B S w) [.ref B, .int (nI 5)] (some (.int (lnFact S nc 5))) (pl E B S w) := by
  refine Cd.of RX1 rfl (by decide) [some (.ref B), some (.int (nI 5))] (Nat.le_of_ble_eq_true rfl) rfl (fun Γ h f hmn => ?_)
  refine v_iload_n (i := 1) h 0 1 dX1_fact_0 rfl rfl ld1 ?_
  refine v_tableIn h 1 86 dX1_fact_1 (by decide) (by decide) (off := 85) (by decide) (by decide) ?_
  refine v_aload_n (i := 0) h 86 87 dX1_fact_86 rfl rfl ld0 ?_
  refine v_iconst (v := 1) h 87 88 dX1_fact_87 rfl (by decide) ?_
  refine v_callV1 h 88 91 dX1_fact_88 rfl cb_X1_chairsIn cv_X1_chairsIn pl_ln lk_X1_166 (rok (by decide) (by decide)) ⟨rfl, rfl⟩ ⟨Nat.zero_le _, Nat.zero_le _⟩ (k_chairsIn e7 hm 1) rfl rfl (Nat.le_of_ble_eq_true rfl) ?_
  exact v_iret h 91 f dX1_fact_91 rfl (Nat.zero_le _) (Nat.zero_le _) rfl rfl

set_option maxRecDepth 100000 in
set_option maxHeartbeats 4000000 in
theorem k_lnFact6 {E : EE} {B : Nat} {S : St} {w : Wo} {nc : Nat} (e7 : S 7 = nI nc) (hm : nc ≤ 14) : Cd E mX1_fact (pl E B S w) [.ref B, .int (nI 6)] (some (.int (lnFact S nc 6))) (pl E B S w) := by
  refine Cd.of RX1 rfl (by decide) [some (.ref B), some (.int (nI 6))] (Nat.le_of_ble_eq_true rfl) rfl (fun Γ h f hmn => ?_)
  refine v_iload_n (i := 1) h 0 1 dX1_fact_0 rfl rfl ld1 ?_
  refine v_tableIn h 1 92 dX1_fact_1 (by decide) (by decide) (off := 91) (by decide) (by decide) ?_
  refine v_aload_n (i := 0) h 92 93 dX1_fact_92 rfl rfl ld0 ?_
  refine v_iconst (v := 2) h 93 94 dX1_fact_93 rfl (by decide) ?_
  refine v_callV1 h 94 97 dX1_fact_94 rfl cb_X1_chairsIn cv_X1_chairsIn pl_ln lk_X1_166 (rok (by decide) (by decide)) ⟨rfl, rfl⟩ ⟨Nat.zero_le _, Nat.zero_le _⟩ (k_chairsIn e7 hm 2) rfl rfl (Nat.le_of_ble_eq_true rfl) ?_
  exact v_iret h 97 f dX1_fact_97 rfl (Nat.zero_le _) (Nat.zero_le _) rfl rfl

set_option maxRecDepth 100000 in
set_option maxHeartbeats 4000000 in
theorem k_lnFact7 {E : EE} {B : Nat} {S : St} {w : Wo} {nc : Nat} (e7 : S 7 = nI nc) (hm : nc ≤ 14) : Cd E mX1_fact (pl E B S w) [.ref B, .int (nI 7)] (some (.int (lnFact S nc 7))) (pl E B S w) := by
  refine Cd.of RX1 rfl (by decide) [some (.ref B), some (.int (nI 7))] (Nat.le_of_ble_eq_true rfl) rfl (fun Γ h f hmn => ?_)
  refine v_iload_n (i := 1) h 0 1 dX1_fact_0 rfl rfl ld1 ?_
  refine v_tableIn h 1 98 dX1_fact_1 (by decide) (by decide) (off := 97) (by decide) (by decide) ?_
  refine v_aload_n (i := 0) h 98 99 dX1_fact_98 rfl rfl ld0 ?_
  refine v_iconst (v := 0) h 99 100 dX1_fact_99 rfl (by decide) ?_
  refine v_callV1 h 100 103 dX1_fact_100 rfl cb_X1_ridersIn cv_X1_ridersIn pl_ln lk_X1_169 (rok (by decide) (by decide)) ⟨rfl, rfl⟩ ⟨Nat.zero_le _, Nat.zero_le _⟩ (k_ridersIn e7 hm 0) rfl rfl (Nat.le_of_ble_eq_true rfl) ?_
  refine v_aload_n (i := 0) h 103 104 dX1_fact_103 rfl rfl ld0 ?_
  refine v_iconst (v := 1) h 104 105 dX1_fact_104 rfl (by decide) ?_
  refine v_callV1 h 105 108 dX1_fact_105 rfl cb_X1_ridersIn cv_X1_ridersIn pl_ln lk_X1_169 (rok (by decide) (by decide)) ⟨rfl, rfl⟩ ⟨Nat.zero_le _, Nat.zero_le _⟩ (k_ridersIn e7 hm 1) rfl rfl (Nat.le_of_ble_eq_true rfl) ?_
  refine v_iadd h 108 109 dX1_fact_108 rfl ?_
  exact v_iret h 109 f dX1_fact_109 rfl (Nat.zero_le _) (Nat.zero_le _) rfl rfl

set_option maxRecDepth 100000 in
set_option maxHeartbeats 4000000 in
theorem k_lnFact8 {E : EE} {B : Nat} {S : St} {w : Wo} {nc : Nat} (e7 : S 7 = nI nc) (hm : nc ≤ 14) : Cd E mX1_fact (pl E B S w) [.ref B, .int (nI 8)] (some (.int (lnFact S nc 8))) (pl E B S w) := by
  refine Cd.of RX1 rfl (by decide) [some (.ref B), some (.int (nI 8))] (Nat.le_of_ble_eq_true rfl) rfl (fun Γ h f hmn => ?_)
  refine v_iload_n (i := 1) h 0 1 dX1_fact_0 rfl rfl ld1 ?_
  refine v_tableIn h 1 110 dX1_fact_1 (by decide) (by decide) (off := 109) (by decide) (by decide) ?_
  refine v_aload_n (i := 0) h 110 111 dX1_fact_110 rfl rfl ld0 ?_
  refine v_iconst (v := 2) h 111 112 dX1_fact_111 rfl (by decide) ?_
  refine v_callV1 h 112 115 dX1_fact_112 rfl cb_X1_ridersIn cv_X1_ridersIn pl_ln lk_X1_169 (rok (by decide) (by decide)) ⟨rfl, rfl⟩ ⟨Nat.zero_le _, Nat.zero_le _⟩ (k_ridersIn e7 hm 2) rfl rfl (Nat.le_of_ble_eq_true rfl) ?_
  exact v_iret h 115 f dX1_fact_115 rfl (Nat.zero_le _) (Nat.zero_le _) rfl rfl

set_option maxRecDepth 100000 in
set_option maxHeartbeats 4000000 in
theorem k_lnFact9 {E : EE} {B : Nat} {S : St} {w : Wo} {nc : Nat} (e7 : S 7 = nI nc) (hm : nc ≤ 14) : Cd E mX1_fact (pl E B S w) [.ref B, .int (nI 9)] (some (.int (lnFact S nc 9))) (pl E B S w) := by
  refine Cd.of RX1 rfl (by decide) [some (.ref B), some (.int (nI 9))] (Nat.le_of_ble_eq_true rfl) rfl (fun Γ h f hmn => ?_)
  refine v_iload_n (i := 1) h 0 1 dX1_fact_0 rfl rfl ld1 ?_
  refine v_tableIn h 1 116 dX1_fact_1 (by decide) (by decide) (off := 115) (by decide) (by decide) ?_
  refine v_aload_n (i := 0) h 116 117 dX1_fact_116 rfl rfl ld0 ?_
  refine v_get h 117 120 dX1_fact_117 rfl fo_X1_48 pl_ln rfl ?_
  exact v_iret h 120 f dX1_fact_120 rfl (Nat.zero_le _) (Nat.zero_le _) rfl rfl

set_option maxRecDepth 100000 in
set_option maxHeartbeats 4000000 in
theorem k_lnFact10 {E : EE} {B : Nat} {S : St} {w : Wo} {nc : Nat} (e7 : S 7 = nI nc) (hm : nc ≤ 14) : Cd E mX1_fact (pl E B S w) [.ref B, .int (nI 10)] (some (.int (lnFact S nc 10))) (pl E B S w) := by
  refine Cd.of RX1 rfl (by decide) [some (.ref B), some (.int (nI 10))] (Nat.le_of_ble_eq_true rfl) rfl (fun Γ h f hmn => ?_)
  refine v_iload_n (i := 1) h 0 1 dX1_fact_0 rfl rfl ld1 ?_
  refine v_tableIn h 1 121 dX1_fact_1 (by decide) (by decide) (off := 120) (by decide) (by decide) ?_
  refine v_aload_n (i := 0) h 121 122 dX1_fact_121 rfl rfl ld0 ?_
  refine v_get h 122 125 dX1_fact_122 rfl fo_X1_51 pl_ln rfl ?_
  exact v_iret h 125 f dX1_fact_125 rfl (Nat.zero_le _) (Nat.zero_le _) rfl rfl

set_option maxRecDepth 100000 in
set_option maxHeartbeats 4000000 in
theorem k_lnFact11 {E : EE} {B : Nat} {S : St} {w : Wo} {nc : Nat} (e7 : S 7 = nI nc) (hm : nc ≤ 14) : Cd E mX1_fact (pl E B S w) [.ref B, .int (nI 11)] (some (.int (lnFact S nc 11))) (pl E B S w) := by
  refine Cd.of RX1 rfl (by decide) [some (.ref B), some (.int (nI 11))] (Nat.le_of_ble_eq_true rfl) rfl (fun Γ h f hmn => ?_)
  refine v_iload_n (i := 1) h 0 1 dX1_fact_0 rfl rfl ld1 ?_
  refine v_tableOut h 1 126 dX1_fact_1 (by decide) (by decide) ?_
  refine v_aload_n (i := 0) h 126 127 dX1_fact_126 rfl rfl ld0 ?_
  refine v_callV1 h 127 130 dX1_fact_127 rfl cb_X1_greatestRank cv_X1_greatestRank pl_ln lk_X1_172 (rok (by decide) (by decide)) ⟨rfl, rfl⟩ ⟨Nat.zero_le _, Nat.zero_le _⟩ (k_greatest e7 hm) rfl rfl (Nat.le_of_ble_eq_true rfl) ?_
  exact v_iret h 130 f dX1_fact_130 rfl (Nat.zero_le _) (Nat.zero_le _) rfl rfl

theorem k_lnFact {E : EE} {B : Nat} {S : St} {w : Wo} {nc k : Nat} (e7 : S 7 = nI nc) (hm : nc ≤ 14) (hk : k < 12) : Cd E mX1_fact (pl E B S w) [.ref B, .int (nI k)] (some (.int (lnFact S nc k))) (pl E B S w) := by
  rcases (show k = 0 ∨ k = 1 ∨ k = 2 ∨ k = 3 ∨ k = 4 ∨ k = 5 ∨ k = 6 ∨ k = 7 ∨ k = 8 ∨ k = 9 ∨ k = 10 ∨ k = 11 by omega) with rfl | rfl | rfl | rfl | rfl | rfl | rfl | rfl | rfl | rfl | rfl | rfl
  · exact k_lnFact0 e7 hm
  · exact k_lnFact1 e7 hm
  · exact k_lnFact2 e7 hm
  · exact k_lnFact3 e7 hm
  · exact k_lnFact4 e7 hm
  · exact k_lnFact5 e7 hm
  · exact k_lnFact6 e7 hm
  · exact k_lnFact7 e7 hm
  · exact k_lnFact8 e7 hm
  · exact k_lnFact9 e7 hm
  · exact k_lnFact10 e7 hm
  · exact k_lnFact11 e7 hm
def rst0 (S : St) (sp : Int32) : St := upd (upd (upd (upd (upd (upd (upd S 0 sp) 9 0) 7 0) 8 0) 12 0) 10 0) 11 0
def rstW (S : St) : Nat → St
  | 0 => S
  | n + 1 => upd (rstW S n) (1 + n) 4
def rstS (S : St) (sp : Int32) : St := rstW (rst0 S sp) 6
set_option maxRecDepth 100000 in
set_option maxHeartbeats 4000000 in
theorem k_reset {E : EE} {B : Nat} {S : St} {w : Wo} (sp : Int32) : Cd E mX1_reset (pl E B S w) [.ref B, .int sp] (none) (pl E B (rstS S sp) w) := by
  refine Cd.of RX1 rfl (by decide) [some (.ref B), some (.int sp), none] (Nat.le_of_ble_eq_true rfl) rfl (fun Γ h f hmn => ?_)
  refine v_aload_n (i := 0) h 0 1 dX1_reset_0 rfl rfl ld0 ?_
  refine v_iload_n (i := 1) h 1 2 dX1_reset_1 rfl rfl ld1 ?_
  refine v_putLn h 2 5 0 dX1_reset_2 rfl fw_X1_32 rfl (by decide) ?_
  refine v_aload_n (i := 0) h 5 6 dX1_reset_5 rfl rfl ld0 ?_
  refine v_iconst (v := 0) h 6 7 dX1_reset_6 rfl (by decide) ?_
  refine v_putLn h 7 10 9 dX1_reset_7 rfl fw_X1_36 rfl (by decide) ?_
  refine v_aload_n (i := 0) h 10 11 dX1_reset_10 rfl rfl ld0 ?_
  refine v_iconst (v := 0) h 11 12 dX1_reset_11 rfl (by decide) ?_
  refine v_putLn h 12 15 7 dX1_reset_12 rfl fw_X1_39 rfl (by decide) ?_
  refine v_aload_n (i := 0) h 15 16 dX1_reset_15 rfl rfl ld0 ?_
  refine v_iconst (v := 0) h 16 17 dX1_reset_16 rfl (by decide) ?_
  refine v_putLn h 17 20 8 dX1_reset_17 rfl fw_X1_42 rfl (by decide) ?_
  refine v_aload_n (i := 0) h 20 21 dX1_reset_20 rfl rfl ld0 ?_
  refine v_iconst (v := 0) h 21 22 dX1_reset_21 rfl (by decide) ?_
  refine v_putLn h 22 25 12 dX1_reset_22 rfl fw_X1_45 rfl (by decide) ?_
  refine v_aload_n (i := 0) h 25 26 dX1_reset_25 rfl rfl ld0 ?_
  refine v_iconst (v := 0) h 26 27 dX1_reset_26 rfl (by decide) ?_
  refine v_putLn h 27 30 10 dX1_reset_27 rfl fw_X1_48 rfl (by decide) ?_
  refine v_aload_n (i := 0) h 30 31 dX1_reset_30 rfl rfl ld0 ?_
  refine v_iconst (v := 0) h 31 32 dX1_reset_31 rfl (by decide) ?_
  refine v_putLn h 32 35 11 dX1_reset_32 rfl fw_X1_51 rfl (by decide) ?_
  refine v_iconst (v := 0) h 35 36 dX1_reset_35 rfl (by decide) ?_
  refine v_istore_n (i := 2) h 36 37 dX1_reset_36 rfl rfl (by decide) (so2 rfl) ?_
  have loop37 : ∀ d j, j + d = 6 → V E Γ 0 0 37 [some (.ref B), some (.int sp), some (.int (nI j))] [] (pl E B (rstW (rst0 S sp) j) w) := by
    intro d
    induction d with
    | zero =>
      intro j hj
      obtain rfl : j = 6 := by omega
      refine v_iload_n (i := 2) h 37 38 dX1_reset_37 rfl rfl ld2 ?_
      refine v_aload_n (i := 0) h 38 39 dX1_reset_38 rfl rfl ld0 ?_
      refine v_get h 39 42 dX1_reset_39 rfl fo_X1_9 pl_ln rfl ?_
      refine v_alen h 42 43 0 dX1_reset_42 rfl pl_wy rfl (v := nI 6) rfl ?_
      refine v_icmp_ge h 43 46 59 dX1_reset_43 rfl (by decide) (fun h43 => ?_) (fun h43 => absurd (nI_le (Nat.le_refl _) (by decide)) h43)
      exact v_ret h 59 f dX1_reset_59 rfl (Nat.zero_le _) (Nat.zero_le _) rfl rfl
    | succ d ih =>
      intro j hj
      refine v_iload_n (i := 2) h 37 38 dX1_reset_37 rfl rfl ld2 ?_
      refine v_aload_n (i := 0) h 38 39 dX1_reset_38 rfl rfl ld0 ?_
      refine v_get h 39 42 dX1_reset_39 rfl fo_X1_9 pl_ln rfl ?_
      refine v_alen h 42 43 0 dX1_reset_42 rfl pl_wy rfl (v := nI 6) rfl ?_
      refine v_icmp_ge h 43 46 59 dX1_reset_43 rfl (by decide) (fun h43 => absurd h43 (nI_ge (by omega) (by decide))) (fun h43 => ?_)
      refine v_aload_n (i := 0) h 46 47 dX1_reset_46 rfl rfl ld0 ?_
      refine v_get h 47 50 dX1_reset_47 rfl fo_X1_9 pl_ln rfl ?_
      refine v_iload_n (i := 2) h 50 51 dX1_reset_50 rfl rfl ld2 ?_
      refine v_iconst (v := 4) h 51 52 dX1_reset_51 rfl (by decide) ?_
      refine v_istW h 52 53 _ dX1_reset_52 rfl (by omega) ?_
      refine v_iinc (i := 2) h 53 56 dX1_reset_53 rfl ld2 (by first | exact iinc1 _ | rfl) (by decide) (so2 rfl) ?_
      refine v_goto h 56 37 dX1_reset_56 (by decide) ?_
      exact ih (j + 1) (by omega)
  exact loop37 6 0 (by omega)

theorem HL.ln {E : EE} {w : Wo} {B : Nat} {S : St} (h : HL E w B S) : w.2 B = some (.inr (1, lnF B S)) := h 0 (by decide)
theorem HL.wy {E : EE} {w : Wo} {B : Nat} {S : St} (h : HL E w B S) : w.2 (B + 1) = some (.inl (gI E, 6, .inl (wyF S))) := h 1 (by decide)
theorem HL.em {E : EE} {w : Wo} {B : Nat} {S : St} (h : HL E w B S) : w.2 (B + 22) = some (.inl (gI E, 14, .inl (emF S))) := h 22 (by decide)
theorem HL.ch {E : EE} {w : Wo} {B : Nat} {S : St} {c : Nat} (h : HL E w B S) (hc : c < 14) : w.2 (B + 3 + c) = some (.inr (0, chF S c)) := by
  rw [show B + 3 + c = B + (3 + c) by omega, h _ (by omega), lnC_ch hc]
theorem HL.tm {E : EE} {w : Wo} {B : Nat} {S : St} {t : Nat} (h : HL E w B S) (hc : t < 4) : w.2 (B + 18 + t) = some (.inr (2, tmF S t)) := by
  rw [show B + 18 + t = B + (18 + t) by omega, h _ (by omega), lnC_tm hc]
theorem HL.on {E : EE} {w : Wo} {B : Nat} {S : St} {M : MI} {as : List Value} {r : Option Value} (h : HL E w B S) (k : Cd E M (pl E B S w) as r (pl E B S w)) : Cd E M w as r w := by
  rw [h.eq] at k
  exact k
def cc8 (S S' : St) (b b' : Nat) : St := upd (upd (upd (upd (upd (upd (upd (upd S (b + 0) (S' (b' + 0))) (b + 1) (S' (b' + 1))) (b + 2) (S' (b' + 2))) (b + 3) (S' (b' + 3))) (b + 4) (S' (b' + 4))) (b + 5) (S' (b' + 5))) (b + 6) (S' (b' + 6))) (b + 7) (S' (b' + 7))
set_option maxRecDepth 100000 in
set_option maxHeartbeats 4000000 in
theorem k_chCopy {E : EE} {B : Nat} {S S' : St} {w : Wo} {c c' a : Nat} (hc : c < 14) (hz : S' (13 + 8 * c' + 3) = 0 ∨ S' (13 + 8 * c' + 3) = 1) (ha : w.2 a = some (.inr (0, chF S' c'))) (hd : a < B ∨ B + 23 ≤ a) : Cd E mX0_copyFrom (pl E B S w) [.ref (B + 3 + c), .ref a] (none) (pl E B (cc8 S S' (13 + 8 * c) (13 + 8 * c')) w) := by
  refine Cd.of RX0 rfl (by decide) [some (.ref (B + 3 + c)), some (.ref a)] (Nat.le_of_ble_eq_true rfl) rfl (fun Γ h f hmn => ?_)
  refine v_aload_n (i := 0) h 0 1 dX0_copyFrom_0 rfl rfl ld0 ?_
  refine v_aload_n (i := 1) h 1 2 dX0_copyFrom_1 rfl rfl ld1 ?_
  refine v_get h 2 5 dX0_copyFrom_2 rfl fo_X0_9 ((pl_out hd).trans ha) rfl ?_
  refine v_putCh h 5 8 dX0_copyFrom_5 rfl fw_X0_9 (by assumption) (by decide) ?_
  refine v_aload_n (i := 0) h 8 9 dX0_copyFrom_8 rfl rfl ld0 ?_
  refine v_aload_n (i := 1) h 9 10 dX0_copyFrom_9 rfl rfl ld1 ?_
  refine v_get h 10 13 dX0_copyFrom_10 rfl fo_X0_15 ((pl_out hd).trans ha) rfl ?_
  refine v_putCh h 13 16 dX0_copyFrom_13 rfl fw_X0_15 (by assumption) (by decide) ?_
  refine v_aload_n (i := 0) h 16 17 dX0_copyFrom_16 rfl rfl ld0 ?_
  refine v_aload_n (i := 1) h 17 18 dX0_copyFrom_17 rfl rfl ld1 ?_
  refine v_get h 18 21 dX0_copyFrom_18 rfl fo_X0_18 ((pl_out hd).trans ha) rfl ?_
  refine v_putCh h 21 24 dX0_copyFrom_21 rfl fw_X0_18 (by assumption) (by decide) ?_
  refine v_aload_n (i := 0) h 24 25 dX0_copyFrom_24 rfl rfl ld0 ?_
  refine v_aload_n (i := 1) h 25 26 dX0_copyFrom_25 rfl rfl ld1 ?_
  refine v_get h 26 29 dX0_copyFrom_26 rfl fo_X0_21 ((pl_out hd).trans ha) rfl ?_
  refine v_putChZ h 29 32 dX0_copyFrom_29 rfl fw_X0_21 (by assumption) (by assumption) ?_
  refine v_aload_n (i := 0) h 32 33 dX0_copyFrom_32 rfl rfl ld0 ?_
  refine v_aload_n (i := 1) h 33 34 dX0_copyFrom_33 rfl rfl ld1 ?_
  refine v_get h 34 37 dX0_copyFrom_34 rfl fo_X0_34 ((pl_out hd).trans ha) rfl ?_
  refine v_putCh h 37 40 dX0_copyFrom_37 rfl fw_X0_34 (by assumption) (by decide) ?_
  refine v_aload_n (i := 0) h 40 41 dX0_copyFrom_40 rfl rfl ld0 ?_
  refine v_aload_n (i := 1) h 41 42 dX0_copyFrom_41 rfl rfl ld1 ?_
  refine v_get h 42 45 dX0_copyFrom_42 rfl fo_X0_37 ((pl_out hd).trans ha) rfl ?_
  refine v_putCh h 45 48 dX0_copyFrom_45 rfl fw_X0_37 (by assumption) (by decide) ?_
  refine v_aload_n (i := 0) h 48 49 dX0_copyFrom_48 rfl rfl ld0 ?_
  refine v_aload_n (i := 1) h 49 50 dX0_copyFrom_49 rfl rfl ld1 ?_
  refine v_get h 50 53 dX0_copyFrom_50 rfl fo_X0_25 ((pl_out hd).trans ha) rfl ?_
  refine v_putCh h 53 56 dX0_copyFrom_53 rfl fw_X0_25 (by assumption) (by decide) ?_
  refine v_aload_n (i := 0) h 56 57 dX0_copyFrom_56 rfl rfl ld0 ?_
  refine v_aload_n (i := 1) h 57 58 dX0_copyFrom_57 rfl rfl ld1 ?_
  refine v_get h 58 61 dX0_copyFrom_58 rfl fo_X0_28 ((pl_out hd).trans ha) rfl ?_
  refine v_putCh h 61 64 dX0_copyFrom_61 rfl fw_X0_28 (by assumption) (by decide) ?_
  exact v_ret h 64 f dX0_copyFrom_64 rfl (Nat.zero_le _) (Nat.zero_le _) rfl rfl

set_option maxRecDepth 100000 in
set_option maxHeartbeats 4000000 in
theorem k_tmCopy {E : EE} {B : Nat} {S S' : St} {w : Wo} {c c' a : Nat} (hc : c < 4) (ha : w.2 a = some (.inr (2, tmF S' c'))) (hd : a < B ∨ B + 23 ≤ a) : Cd E mX2_copyFrom (pl E B S w) [.ref (B + 18 + c), .ref a] (none) (pl E B (cc8 S S' (125 + 8 * c) (125 + 8 * c')) w) := by
  refine Cd.of RX2 rfl (by decide) [some (.ref (B + 18 + c)), some (.ref a)] (Nat.le_of_ble_eq_true rfl) rfl (fun Γ h f hmn => ?_)
  refine v_aload_n (i := 0) h 0 1 dX2_copyFrom_0 rfl rfl ld0 ?_
  refine v_aload_n (i := 1) h 1 2 dX2_copyFrom_1 rfl rfl ld1 ?_
  refine v_get h 2 5 dX2_copyFrom_2 rfl fo_X2_9 ((pl_out hd).trans ha) rfl ?_
  refine v_putTm h 5 8 dX2_copyFrom_5 rfl fw_X2_9 (by assumption) (by decide) ?_
  refine v_aload_n (i := 0) h 8 9 dX2_copyFrom_8 rfl rfl ld0 ?_
  refine v_aload_n (i := 1) h 9 10 dX2_copyFrom_9 rfl rfl ld1 ?_
  refine v_get h 10 13 dX2_copyFrom_10 rfl fo_X2_15 ((pl_out hd).trans ha) rfl ?_
  refine v_putTm h 13 16 dX2_copyFrom_13 rfl fw_X2_15 (by assumption) (by decide) ?_
  refine v_aload_n (i := 0) h 16 17 dX2_copyFrom_16 rfl rfl ld0 ?_
  refine v_aload_n (i := 1) h 17 18 dX2_copyFrom_17 rfl rfl ld1 ?_
  refine v_get h 18 21 dX2_copyFrom_18 rfl fo_X2_30 ((pl_out hd).trans ha) rfl ?_
  refine v_putTm h 21 24 dX2_copyFrom_21 rfl fw_X2_30 (by assumption) (by decide) ?_
  refine v_aload_n (i := 0) h 24 25 dX2_copyFrom_24 rfl rfl ld0 ?_
  refine v_aload_n (i := 1) h 25 26 dX2_copyFrom_25 rfl rfl ld1 ?_
  refine v_get h 26 29 dX2_copyFrom_26 rfl fo_X2_33 ((pl_out hd).trans ha) rfl ?_
  refine v_putTm h 29 32 dX2_copyFrom_29 rfl fw_X2_33 (by assumption) (by decide) ?_
  refine v_aload_n (i := 0) h 32 33 dX2_copyFrom_32 rfl rfl ld0 ?_
  refine v_aload_n (i := 1) h 33 34 dX2_copyFrom_33 rfl rfl ld1 ?_
  refine v_get h 34 37 dX2_copyFrom_34 rfl fo_X2_36 ((pl_out hd).trans ha) rfl ?_
  refine v_putTm h 37 40 dX2_copyFrom_37 rfl fw_X2_36 (by assumption) (by decide) ?_
  refine v_aload_n (i := 0) h 40 41 dX2_copyFrom_40 rfl rfl ld0 ?_
  refine v_aload_n (i := 1) h 41 42 dX2_copyFrom_41 rfl rfl ld1 ?_
  refine v_get h 42 45 dX2_copyFrom_42 rfl fo_X2_18 ((pl_out hd).trans ha) rfl ?_
  refine v_putTm h 45 48 dX2_copyFrom_45 rfl fw_X2_18 (by assumption) (by decide) ?_
  refine v_aload_n (i := 0) h 48 49 dX2_copyFrom_48 rfl rfl ld0 ?_
  refine v_aload_n (i := 1) h 49 50 dX2_copyFrom_49 rfl rfl ld1 ?_
  refine v_get h 50 53 dX2_copyFrom_50 rfl fo_X2_21 ((pl_out hd).trans ha) rfl ?_
  refine v_putTm h 53 56 dX2_copyFrom_53 rfl fw_X2_21 (by assumption) (by decide) ?_
  refine v_aload_n (i := 0) h 56 57 dX2_copyFrom_56 rfl rfl ld0 ?_
  refine v_aload_n (i := 1) h 57 58 dX2_copyFrom_57 rfl rfl ld1 ?_
  refine v_get h 58 61 dX2_copyFrom_58 rfl fo_X2_24 ((pl_out hd).trans ha) rfl ?_
  refine v_putTm h 61 64 dX2_copyFrom_61 rfl fw_X2_24 (by assumption) (by decide) ?_
  exact v_ret h 64 f dX2_copyFrom_64 rfl (Nat.zero_le _) (Nat.zero_le _) rfl rfl

def cpQ (a b c d i : Nat) : Prop := (i = 0 ∨ (7 ≤ i ∧ i < 13)) ∨ (1 ≤ i ∧ i < 1 + a) ∨ (157 ≤ i ∧ i < 157 + b) ∨ (13 ≤ i ∧ i < 13 + 8 * c) ∨ (125 ≤ i ∧ i < 125 + 8 * d)
def cpB (a b c d i : Nat) : Bool := decide (i = 0) || (decide (7 ≤ i) && decide (i < 13)) || (decide (1 ≤ i) && decide (i < 1 + a)) || (decide (157 ≤ i) && decide (i < 157 + b)) || (decide (13 ≤ i) && decide (i < 13 + 8 * c)) || (decide (125 ≤ i) && decide (i < 125 + 8 * d))
theorem cpB_iff {a b c d i : Nat} : cpB a b c d i = true ↔ cpQ a b c d i := by
  unfold cpB cpQ
  simp only [Bool.or_eq_true, Bool.and_eq_true, decide_eq_true_eq]
  omega
def cpf (S S' : St) (a b c d : Nat) : St := fun i => if cpB a b c d i = true then S' i else S i
theorem cpf_in {S S' : St} {a b c d i : Nat} (h : cpQ a b c d i) : cpf S S' a b c d i = S' i := if_pos (cpB_iff.mpr h)
theorem cpf_out {S S' : St} {a b c d i : Nat} (h : ¬ cpQ a b c d i) : cpf S S' a b c d i = S i := if_neg (fun q => h (cpB_iff.mp q))
theorem cpf_up {S S' : St} {a b c d a' b' c' d' j : Nat} (h : cpQ a' b' c' d' j) (h2 : ∀ i, i ≠ j → (cpQ a b c d i ↔ cpQ a' b' c' d' i)) : upd (cpf S S' a b c d) j (S' j) = cpf S S' a' b' c' d' := by
  funext i
  by_cases e : i = j
  · subst e
    rw [upd_self, cpf_in h]
  · rw [upd_ne _ _ e]
    by_cases q : cpQ a b c d i
    · rw [cpf_in q, cpf_in ((h2 i e).mp q)]
    · rw [cpf_out q, cpf_out (fun z => q ((h2 i e).mpr z))]
theorem cc8_out {S S' : St} {b b' i : Nat} (h : i < b ∨ b + 8 ≤ i) : cc8 S S' b b' i = S i := by
  unfold cc8
  rw [upd_ne _ _ (by omega), upd_ne _ _ (by omega), upd_ne _ _ (by omega), upd_ne _ _ (by omega), upd_ne _ _ (by omega), upd_ne _ _ (by omega), upd_ne _ _ (by omega), upd_ne _ _ (by omega)]
theorem cc8_in {S S' : St} {b i : Nat} (h : b ≤ i) (h2 : i < b + 8) : cc8 S S' b b i = S' i := by
  obtain ⟨k, rfl⟩ : ∃ k, i = b + k := ⟨i - b, by omega⟩
  rcases (show k = 0 ∨ k = 1 ∨ k = 2 ∨ k = 3 ∨ k = 4 ∨ k = 5 ∨ k = 6 ∨ k = 7 by omega) with rfl | rfl | rfl | rfl | rfl | rfl | rfl | rfl <;> simp [cc8, upd]
theorem cpf_8 {S S' : St} {a b c d c' d' j : Nat} (h : ∀ i, j ≤ i → i < j + 8 → cpQ a b c' d' i) (h2 : ∀ i, i < j ∨ j + 8 ≤ i → (cpQ a b c d i ↔ cpQ a b c' d' i)) : cc8 (cpf S S' a b c d) S' j j = cpf S S' a b c' d' := by
  funext i
  by_cases e : j ≤ i ∧ i < j + 8
  · rw [cc8_in e.1 e.2, cpf_in (h i e.1 e.2)]
  · rw [cc8_out (by omega)]
    by_cases q : cpQ a b c d i
    · rw [cpf_in q, cpf_in ((h2 i (by omega)).mp q)]
    · rw [cpf_out q, cpf_out (fun z => q ((h2 i (by omega)).mpr z))]
theorem cpf_0 {S S' : St} : upd (upd (upd (upd (upd (upd (upd S 0 (S' 0)) 9 (S' 9)) 7 (S' 7)) 8 (S' 8)) 12 (S' 12)) 10 (S' 10)) 11 (S' 11) = cpf S S' 0 0 0 0 := by
  funext i
  by_cases q : cpQ 0 0 0 0 i
  · rw [cpf_in q]
    unfold cpQ at q
    rcases (show i = 0 ∨ i = 7 ∨ i = 8 ∨ i = 9 ∨ i = 10 ∨ i = 11 ∨ i = 12 by omega) with rfl | rfl | rfl | rfl | rfl | rfl | rfl <;> simp [upd]
  · rw [cpf_out q]
    unfold cpQ at q
    rw [upd_ne _ _ (by omega), upd_ne _ _ (by omega), upd_ne _ _ (by omega), upd_ne _ _ (by omega), upd_ne _ _ (by omega), upd_ne _ _ (by omega), upd_ne _ _ (by omega)]
def cpS (S S' : St) (nc nt : Nat) : St := cpf S S' 6 14 nc nt
set_option maxRecDepth 100000 in
set_option maxHeartbeats 4000000 in
theorem k_copyFrom {E : EE} {B B' : Nat} {S S' : St} {w : Wo} {nc nt : Nat} (hO : HL E w B' S') (hd : B + 23 ≤ B' ∨ B' + 23 ≤ B) (e7 : S' 7 = nI nc) (hm : nc ≤ 14) (e8 : S' 8 = nI nt) (hmt : nt ≤ 4) (hz : ∀ c, c < nc → S' (13 + 8 * c + 3) = 0 ∨ S' (13 + 8 * c + 3) = 1) : Cd E mX1_copyFrom (pl E B S w) [.ref B, .ref B'] (none) (pl E B (cpS S S' nc nt) w) := by
  refine Cd.of RX1 rfl (by decide) [some (.ref B), some (.ref B'), none, none, none] (Nat.le_of_ble_eq_true rfl) rfl (fun Γ h f hmn => ?_)
  have hP : ∀ Z, HL E (pl E B Z w) B' S' := fun Z => hO.out hd
  have f : Fn E Γ mX1_copyFrom none (pl E B (cpf S S' 6 14 nc nt) w) := f
  have k176 : ∀ i2 i3 i4, V E Γ 0 0 176 [some (.ref B), some (.ref B'), i2, i3, i4] [] (pl E B (cpf S S' 6 14 nc 0) w) := by
    intro i2 i3 i4
    refine v_iconst (v := 0) h 176 177 dX1_copyFrom_176 rfl (by decide) ?_
    refine v_istore_n (i := 2) h 177 178 dX1_copyFrom_177 rfl rfl (by decide) (so2 rfl) ?_
    have loop178 : ∀ d j, j + d = nt → V E Γ 0 0 178 [some (.ref B), some (.ref B'), some (.int (nI j)), none, none] [] (pl E B (cpf S S' 6 14 nc j) w) := by
      intro d
      induction d with
      | zero =>
        intro j hj
        obtain rfl : nt = j := by omega
        refine v_iload_n (i := 2) h 178 179 dX1_copyFrom_178 rfl rfl ld2 ?_
        refine v_aload_n (i := 0) h 179 180 dX1_copyFrom_179 rfl rfl ld0 ?_
        refine v_get h 180 183 dX1_copyFrom_180 rfl fo_X1_42 pl_ln rfl ?_
        refine v_icmp_ge h 183 186 220 dX1_copyFrom_183 rfl (by decide) (fun h183 => ?_) (fun h183 => absurd (by rw [cpf_in (by unfold cpQ; omega), e8]; exact nI_le (Nat.le_refl _) (by omega)) h183)
        exact v_ret h 220 f dX1_copyFrom_220 rfl (Nat.zero_le _) (Nat.zero_le _) rfl rfl
      | succ d ih =>
        intro j hj
        refine v_iload_n (i := 2) h 178 179 dX1_copyFrom_178 rfl rfl ld2 ?_
        refine v_aload_n (i := 0) h 179 180 dX1_copyFrom_179 rfl rfl ld0 ?_
        refine v_get h 180 183 dX1_copyFrom_180 rfl fo_X1_42 pl_ln rfl ?_
        refine v_icmp_ge h 183 186 220 dX1_copyFrom_183 rfl (by decide) (fun h183 => absurd h183 (by rw [cpf_in (by unfold cpQ; omega), e8]; exact nI_ge (by omega) (by omega))) (fun h183 => ?_)
        refine v_aload_n (i := 0) h 186 187 dX1_copyFrom_186 rfl rfl ld0 ?_
        refine v_iload_n (i := 2) h 187 188 dX1_copyFrom_187 rfl rfl ld2 ?_
        refine v_callV1 h 188 191 dX1_copyFrom_188 rfl cb_X1_teamAt cv_X1_teamAt pl_ln lk_X1_62 (rok (by decide) (by decide)) ⟨rfl, rfl⟩ ⟨Nat.zero_le _, Nat.zero_le _⟩ (k_teamS (nc := nt) ((cpf_in (by unfold cpQ; omega)).trans e8) hmt (c := j) (by omega)) rfl rfl (Nat.le_of_ble_eq_true rfl) ?_
        refine v_astore_n (i := 3) h 191 192 dX1_copyFrom_191 rfl rfl (by decide) (so3 rfl) ?_
        refine v_aload_n (i := 1) h 192 193 dX1_copyFrom_192 rfl rfl ld1 ?_
        refine v_iload_n (i := 2) h 193 194 dX1_copyFrom_193 rfl rfl ld2 ?_
        refine v_callV1 h 194 197 dX1_copyFrom_194 rfl cb_X1_teamAt cv_X1_teamAt (hP _).ln lk_X1_62 (rok (by decide) (by decide)) ⟨rfl, rfl⟩ ⟨Nat.zero_le _, Nat.zero_le _⟩ ((hP _).on (k_teamS e8 hmt (c := j) (by omega))) rfl rfl (Nat.le_of_ble_eq_true rfl) ?_
        refine v_astore (i := 4) h 197 199 dX1_copyFrom_197 rfl (by decide) (so4 rfl) ?_
        refine v_aload_n (i := 3) h 199 200 dX1_copyFrom_199 rfl rfl ld3 ?_
        refine v_ifnull h 200 203 dX1_copyFrom_200 rfl ?_
        refine v_aload (i := 4) h 203 205 dX1_copyFrom_203 rfl ld4 ?_
        refine v_ifnull h 205 208 dX1_copyFrom_205 rfl ?_
        refine v_aload_n (i := 3) h 208 209 dX1_copyFrom_208 rfl rfl ld3 ?_
        refine v_aload (i := 4) h 209 211 dX1_copyFrom_209 rfl ld4 ?_
        refine v_callV0 h 211 214 dX1_copyFrom_211 rfl cb_X2_copyFrom cv_X2_copyFrom (pl_tm (by omega)) lk_X1_66 (rok (by decide) (by decide)) ⟨rfl, rfl⟩ ⟨Nat.zero_le _, Nat.zero_le _⟩ (k_tmCopy (c := j) (c' := j) (by omega) (hO.tm (by omega)) (by omega)) rfl rfl (Nat.le_of_ble_eq_true rfl) ?_
        refine v_iinc (i := 2) h 214 217 dX1_copyFrom_214 rfl ld2 (by first | exact iinc1 _ | rfl) (by decide) (so2 rfl) ?_
        refine v_goto h 217 178 dX1_copyFrom_217 (by decide) ?_
        refine V.world (w' := pl E B (cpf S S' 6 14 nc (j + 1)) w) (by rw [cpf_8 (c' := nc) (d' := j + 1) (fun i h1 h2 => by unfold cpQ; omega) (fun i hi => by unfold cpQ; omega)]) (V.weakS (by simp [lsub]) (ih (j + 1) (by omega)))
    exact V.weakS (by simp [lsub, nI_0]) (loop178 nt 0 (by omega))
  have k132 : ∀ i2 i3 i4, V E Γ 0 0 132 [some (.ref B), some (.ref B'), i2, i3, i4] [] (pl E B (cpf S S' 6 14 0 0) w) := by
    intro i2 i3 i4
    refine v_iconst (v := 0) h 132 133 dX1_copyFrom_132 rfl (by decide) ?_
    refine v_istore_n (i := 2) h 133 134 dX1_copyFrom_133 rfl rfl (by decide) (so2 rfl) ?_
    have loop134 : ∀ d j, j + d = nc → V E Γ 0 0 134 [some (.ref B), some (.ref B'), some (.int (nI j)), none, none] [] (pl E B (cpf S S' 6 14 j 0) w) := by
      intro d
      induction d with
      | zero =>
        intro j hj
        obtain rfl : nc = j := by omega
        refine v_iload_n (i := 2) h 134 135 dX1_copyFrom_134 rfl rfl ld2 ?_
        refine v_aload_n (i := 0) h 135 136 dX1_copyFrom_135 rfl rfl ld0 ?_
        refine v_get h 136 139 dX1_copyFrom_136 rfl fo_X1_39 pl_ln rfl ?_
        refine v_icmp_ge h 139 142 176 dX1_copyFrom_139 rfl (by decide) (fun h139 => ?_) (fun h139 => absurd (by rw [cpf_in (by unfold cpQ; omega), e7]; exact nI_le (Nat.le_refl _) (by omega)) h139)
        exact k176 _ _ _
      | succ d ih =>
        intro j hj
        refine v_iload_n (i := 2) h 134 135 dX1_copyFrom_134 rfl rfl ld2 ?_
        refine v_aload_n (i := 0) h 135 136 dX1_copyFrom_135 rfl rfl ld0 ?_
        refine v_get h 136 139 dX1_copyFrom_136 rfl fo_X1_39 pl_ln rfl ?_
        refine v_icmp_ge h 139 142 176 dX1_copyFrom_139 rfl (by decide) (fun h139 => absurd h139 (by rw [cpf_in (by unfold cpQ; omega), e7]; exact nI_ge (by omega) (by omega))) (fun h139 => ?_)
        refine v_aload_n (i := 0) h 142 143 dX1_copyFrom_142 rfl rfl ld0 ?_
        refine v_iload_n (i := 2) h 143 144 dX1_copyFrom_143 rfl rfl ld2 ?_
        refine v_callV1 h 144 147 dX1_copyFrom_144 rfl cb_X1_chairAt cv_X1_chairAt pl_ln lk_X1_54 (rok (by decide) (by decide)) ⟨rfl, rfl⟩ ⟨Nat.zero_le _, Nat.zero_le _⟩ (k_chairS (nc := nc) ((cpf_in (by unfold cpQ; omega)).trans e7) hm (c := j) (by omega)) rfl rfl (Nat.le_of_ble_eq_true rfl) ?_
        refine v_astore_n (i := 3) h 147 148 dX1_copyFrom_147 rfl rfl (by decide) (so3 rfl) ?_
        refine v_aload_n (i := 1) h 148 149 dX1_copyFrom_148 rfl rfl ld1 ?_
        refine v_iload_n (i := 2) h 149 150 dX1_copyFrom_149 rfl rfl ld2 ?_
        refine v_callV1 h 150 153 dX1_copyFrom_150 rfl cb_X1_chairAt cv_X1_chairAt (hP _).ln lk_X1_54 (rok (by decide) (by decide)) ⟨rfl, rfl⟩ ⟨Nat.zero_le _, Nat.zero_le _⟩ ((hP _).on (k_chairS e7 hm (c := j) (by omega))) rfl rfl (Nat.le_of_ble_eq_true rfl) ?_
        refine v_astore (i := 4) h 153 155 dX1_copyFrom_153 rfl (by decide) (so4 rfl) ?_
        refine v_aload_n (i := 3) h 155 156 dX1_copyFrom_155 rfl rfl ld3 ?_
        refine v_ifnull h 156 159 dX1_copyFrom_156 rfl ?_
        refine v_aload (i := 4) h 159 161 dX1_copyFrom_159 rfl ld4 ?_
        refine v_ifnull h 161 164 dX1_copyFrom_161 rfl ?_
        refine v_aload_n (i := 3) h 164 165 dX1_copyFrom_164 rfl rfl ld3 ?_
        refine v_aload (i := 4) h 165 167 dX1_copyFrom_165 rfl ld4 ?_
        refine v_callV0 h 167 170 dX1_copyFrom_167 rfl cb_X0_copyFrom cv_X0_copyFrom (pl_ch (by omega)) lk_X1_58 (rok (by decide) (by decide)) ⟨rfl, rfl⟩ ⟨Nat.zero_le _, Nat.zero_le _⟩ (k_chCopy (c := j) (c' := j) (by omega) (hz j (by omega)) (hO.ch (by omega)) (by omega)) rfl rfl (Nat.le_of_ble_eq_true rfl) ?_
        refine v_iinc (i := 2) h 170 173 dX1_copyFrom_170 rfl ld2 (by first | exact iinc1 _ | rfl) (by decide) (so2 rfl) ?_
        refine v_goto h 173 134 dX1_copyFrom_173 (by decide) ?_
        refine V.world (w' := pl E B (cpf S S' 6 14 (j + 1) 0) w) (by rw [cpf_8 (c' := j + 1) (d' := 0) (fun i h1 h2 => by unfold cpQ; omega) (fun i hi => by unfold cpQ; omega)]) (V.weakS (by simp [lsub]) (ih (j + 1) (by omega)))
    exact V.weakS (by simp [lsub, nI_0]) (loop134 nc 0 (by omega))
  have k94 : ∀ i2 i3 i4, V E Γ 0 0 94 [some (.ref B), some (.ref B'), i2, i3, i4] [] (pl E B (cpf S S' 6 0 0 0) w) := by
    intro i2 i3 i4
    refine v_iconst (v := 0) h 94 95 dX1_copyFrom_94 rfl (by decide) ?_
    refine v_istore_n (i := 2) h 95 96 dX1_copyFrom_95 rfl rfl (by decide) (so2 rfl) ?_
    have loop96 : ∀ d j, j + d = 14 → V E Γ 0 0 96 [some (.ref B), some (.ref B'), some (.int (nI j)), none, none] [] (pl E B (cpf S S' 6 j 0 0) w) := by
      intro d
      induction d with
      | zero =>
        intro j hj
        obtain rfl : j = 14 := by omega
        refine v_iload_n (i := 2) h 96 97 dX1_copyFrom_96 rfl rfl ld2 ?_
        refine v_aload_n (i := 0) h 97 98 dX1_copyFrom_97 rfl rfl ld0 ?_
        refine v_get h 98 101 dX1_copyFrom_98 rfl fo_X1_29 pl_ln rfl ?_
        refine v_alen h 101 102 0 dX1_copyFrom_101 rfl pl_em rfl (v := nI 14) rfl ?_
        refine v_icmp_ge h 102 105 132 dX1_copyFrom_102 rfl (by decide) (fun h102 => ?_) (fun h102 => absurd (nI_le (by omega) (by omega)) h102)
        exact k132 _ _ _
      | succ d ih =>
        intro j hj
        refine v_iload_n (i := 2) h 96 97 dX1_copyFrom_96 rfl rfl ld2 ?_
        refine v_aload_n (i := 0) h 97 98 dX1_copyFrom_97 rfl rfl ld0 ?_
        refine v_get h 98 101 dX1_copyFrom_98 rfl fo_X1_29 pl_ln rfl ?_
        refine v_alen h 101 102 0 dX1_copyFrom_101 rfl pl_em rfl (v := nI 14) rfl ?_
        refine v_icmp_ge h 102 105 132 dX1_copyFrom_102 rfl (by decide) (fun h102 => absurd h102 (nI_ge (by omega) (by decide))) (fun h102 => ?_)
        refine v_iload_n (i := 2) h 105 106 dX1_copyFrom_105 rfl rfl ld2 ?_
        refine v_aload_n (i := 1) h 106 107 dX1_copyFrom_106 rfl rfl ld1 ?_
        refine v_get h 107 110 dX1_copyFrom_107 rfl fo_X1_29 (hP _).ln rfl ?_
        refine v_alen h 110 111 0 dX1_copyFrom_110 rfl (hP _).em rfl (v := nI 14) rfl ?_
        refine v_icmp_ge h 111 114 132 dX1_copyFrom_111 rfl (by decide) (fun h111 => absurd h111 (nI_ge (by omega) (by decide))) (fun h111 => ?_)
        refine v_aload_n (i := 0) h 114 115 dX1_copyFrom_114 rfl rfl ld0 ?_
        refine v_get h 115 118 dX1_copyFrom_115 rfl fo_X1_29 pl_ln rfl ?_
        refine v_iload_n (i := 2) h 118 119 dX1_copyFrom_118 rfl rfl ld2 ?_
        refine v_aload_n (i := 1) h 119 120 dX1_copyFrom_119 rfl rfl ld1 ?_
        refine v_get h 120 123 dX1_copyFrom_120 rfl fo_X1_29 (hP _).ln rfl ?_
        refine v_iload_n (i := 2) h 123 124 dX1_copyFrom_123 rfl rfl ld2 ?_
        refine v_iald h 124 125 dX1_copyFrom_124 rfl (hP _).em (vp_in_nI (n := j) (by omega) (by decide)) ?_
        rw [nI_clamp (by omega), emF_at (by omega)]
        refine v_istE h 125 126 _ dX1_copyFrom_125 rfl (by omega) ?_
        refine v_iinc (i := 2) h 126 129 dX1_copyFrom_126 rfl ld2 (by first | exact iinc1 _ | rfl) (by decide) (so2 rfl) ?_
        refine v_goto h 129 96 dX1_copyFrom_129 (by decide) ?_
        refine V.world (w' := pl E B (cpf S S' 6 (j + 1) 0 0) w) (by rw [cpf_up (a' := 6) (b' := j + 1) (c' := 0) (d' := 0) (by unfold cpQ; omega) (fun i hi => by unfold cpQ; omega)]) (V.weakS (by simp [lsub]) (ih (j + 1) (by omega)))
    exact V.weakS (by simp [lsub, nI_0]) (loop96 14 0 (by omega))
  have k56 : ∀ i2 i3 i4, V E Γ 0 0 56 [some (.ref B), some (.ref B'), i2, i3, i4] [] (pl E B (cpf S S' 0 0 0 0) w) := by
    intro i2 i3 i4
    refine v_iconst (v := 0) h 56 57 dX1_copyFrom_56 rfl (by decide) ?_
    refine v_istore_n (i := 2) h 57 58 dX1_copyFrom_57 rfl rfl (by decide) (so2 rfl) ?_
    have loop58 : ∀ d j, j + d = 6 → V E Γ 0 0 58 [some (.ref B), some (.ref B'), some (.int (nI j)), none, none] [] (pl E B (cpf S S' j 0 0 0) w) := by
      intro d
      induction d with
      | zero =>
        intro j hj
        obtain rfl : j = 6 := by omega
        refine v_iload_n (i := 2) h 58 59 dX1_copyFrom_58 rfl rfl ld2 ?_
        refine v_aload_n (i := 0) h 59 60 dX1_copyFrom_59 rfl rfl ld0 ?_
        refine v_get h 60 63 dX1_copyFrom_60 rfl fo_X1_9 pl_ln rfl ?_
        refine v_alen h 63 64 0 dX1_copyFrom_63 rfl pl_wy rfl (v := nI 6) rfl ?_
        refine v_icmp_ge h 64 67 94 dX1_copyFrom_64 rfl (by decide) (fun h64 => ?_) (fun h64 => absurd (nI_le (by omega) (by omega)) h64)
        exact k94 _ _ _
      | succ d ih =>
        intro j hj
        refine v_iload_n (i := 2) h 58 59 dX1_copyFrom_58 rfl rfl ld2 ?_
        refine v_aload_n (i := 0) h 59 60 dX1_copyFrom_59 rfl rfl ld0 ?_
        refine v_get h 60 63 dX1_copyFrom_60 rfl fo_X1_9 pl_ln rfl ?_
        refine v_alen h 63 64 0 dX1_copyFrom_63 rfl pl_wy rfl (v := nI 6) rfl ?_
        refine v_icmp_ge h 64 67 94 dX1_copyFrom_64 rfl (by decide) (fun h64 => absurd h64 (nI_ge (by omega) (by decide))) (fun h64 => ?_)
        refine v_iload_n (i := 2) h 67 68 dX1_copyFrom_67 rfl rfl ld2 ?_
        refine v_aload_n (i := 1) h 68 69 dX1_copyFrom_68 rfl rfl ld1 ?_
        refine v_get h 69 72 dX1_copyFrom_69 rfl fo_X1_9 (hP _).ln rfl ?_
        refine v_alen h 72 73 0 dX1_copyFrom_72 rfl (hP _).wy rfl (v := nI 6) rfl ?_
        refine v_icmp_ge h 73 76 94 dX1_copyFrom_73 rfl (by decide) (fun h73 => absurd h73 (nI_ge (by omega) (by decide))) (fun h73 => ?_)
        refine v_aload_n (i := 0) h 76 77 dX1_copyFrom_76 rfl rfl ld0 ?_
        refine v_get h 77 80 dX1_copyFrom_77 rfl fo_X1_9 pl_ln rfl ?_
        refine v_iload_n (i := 2) h 80 81 dX1_copyFrom_80 rfl rfl ld2 ?_
        refine v_aload_n (i := 1) h 81 82 dX1_copyFrom_81 rfl rfl ld1 ?_
        refine v_get h 82 85 dX1_copyFrom_82 rfl fo_X1_9 (hP _).ln rfl ?_
        refine v_iload_n (i := 2) h 85 86 dX1_copyFrom_85 rfl rfl ld2 ?_
        refine v_iald h 86 87 dX1_copyFrom_86 rfl (hP _).wy (vp_in_nI (n := j) (by omega) (by decide)) ?_
        rw [nI_clamp (by omega), wyF_at (by omega)]
        refine v_istW h 87 88 _ dX1_copyFrom_87 rfl (by omega) ?_
        refine v_iinc (i := 2) h 88 91 dX1_copyFrom_88 rfl ld2 (by first | exact iinc1 _ | rfl) (by decide) (so2 rfl) ?_
        refine v_goto h 91 58 dX1_copyFrom_91 (by decide) ?_
        refine V.world (w' := pl E B (cpf S S' (j + 1) 0 0 0) w) (by rw [cpf_up (a' := j + 1) (b' := 0) (c' := 0) (d' := 0) (by unfold cpQ; omega) (fun i hi => by unfold cpQ; omega)]) (V.weakS (by simp [lsub]) (ih (j + 1) (by omega)))
    exact V.weakS (by simp [lsub, nI_0]) (loop58 6 0 (by omega))
  refine v_aload_n (i := 0) h 0 1 dX1_copyFrom_0 rfl rfl ld0 ?_
  refine v_aload_n (i := 1) h 1 2 dX1_copyFrom_1 rfl rfl ld1 ?_
  refine v_get h 2 5 dX1_copyFrom_2 rfl fo_X1_32 (hP _).ln rfl ?_
  refine v_putLn h 5 8 0 dX1_copyFrom_5 rfl fw_X1_32 rfl (by decide) ?_
  refine v_aload_n (i := 0) h 8 9 dX1_copyFrom_8 rfl rfl ld0 ?_
  refine v_aload_n (i := 1) h 9 10 dX1_copyFrom_9 rfl rfl ld1 ?_
  refine v_get h 10 13 dX1_copyFrom_10 rfl fo_X1_36 (hP _).ln rfl ?_
  refine v_putLn h 13 16 9 dX1_copyFrom_13 rfl fw_X1_36 rfl (by decide) ?_
  refine v_aload_n (i := 0) h 16 17 dX1_copyFrom_16 rfl rfl ld0 ?_
  refine v_aload_n (i := 1) h 17 18 dX1_copyFrom_17 rfl rfl ld1 ?_
  refine v_get h 18 21 dX1_copyFrom_18 rfl fo_X1_39 (hP _).ln rfl ?_
  refine v_putLn h 21 24 7 dX1_copyFrom_21 rfl fw_X1_39 rfl (by decide) ?_
  refine v_aload_n (i := 0) h 24 25 dX1_copyFrom_24 rfl rfl ld0 ?_
  refine v_aload_n (i := 1) h 25 26 dX1_copyFrom_25 rfl rfl ld1 ?_
  refine v_get h 26 29 dX1_copyFrom_26 rfl fo_X1_42 (hP _).ln rfl ?_
  refine v_putLn h 29 32 8 dX1_copyFrom_29 rfl fw_X1_42 rfl (by decide) ?_
  refine v_aload_n (i := 0) h 32 33 dX1_copyFrom_32 rfl rfl ld0 ?_
  refine v_aload_n (i := 1) h 33 34 dX1_copyFrom_33 rfl rfl ld1 ?_
  refine v_get h 34 37 dX1_copyFrom_34 rfl fo_X1_45 (hP _).ln rfl ?_
  refine v_putLn h 37 40 12 dX1_copyFrom_37 rfl fw_X1_45 rfl (by decide) ?_
  refine v_aload_n (i := 0) h 40 41 dX1_copyFrom_40 rfl rfl ld0 ?_
  refine v_aload_n (i := 1) h 41 42 dX1_copyFrom_41 rfl rfl ld1 ?_
  refine v_get h 42 45 dX1_copyFrom_42 rfl fo_X1_48 (hP _).ln rfl ?_
  refine v_putLn h 45 48 10 dX1_copyFrom_45 rfl fw_X1_48 rfl (by decide) ?_
  refine v_aload_n (i := 0) h 48 49 dX1_copyFrom_48 rfl rfl ld0 ?_
  refine v_aload_n (i := 1) h 49 50 dX1_copyFrom_49 rfl rfl ld1 ?_
  refine v_get h 50 53 dX1_copyFrom_50 rfl fo_X1_51 (hP _).ln rfl ?_
  refine v_putLn h 53 56 11 dX1_copyFrom_53 rfl fw_X1_51 rfl (by decide) ?_
  refine V.world (w' := pl E B (cpf S S' 0 0 0 0) w) (by rw [← cpf_0]) ?_
  exact k56 _ _ _
