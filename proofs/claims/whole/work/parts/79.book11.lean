set_option maxHeartbeats 4000000 in
set_option maxRecDepth 100000 in
theorem c_X0_readLine {g : Gm} {k : Nat → Nat} {tpa : Nat} {kk kp kn : Int → Int} {sz kc fg ps : Int} {tf : Int → Int} {bk : Nat → Nat} {eo es ep : Int → Int} {dp ss pp sg us fk fp : Int} {a : Nat → Nat} {L ln tp rd : Int → Int} {cnt era nws : Int} {r : Nat → Nat} {m : Nat} {RL : Int → Int} {rlen : Int} (hK : TkG tf sz kk kp kn kc) (hfi : 0 ≤ fg ∧ fg < kc) (hfk0 : fk = 0) (hsh : ShOk L ln cnt) (hm48 : (m : Int) = 4800) (hBR : BR RL) (hEo : R32 eo) : Ct g 5 0 0 yX0_readLine cX0_readLine 4 none [.ref (bk 0)] [(wBook g bk (k 0) (a 0) (r 0) eo es ep dp ss pp sg us fk fp), (wTok g k tpa kk kp kn sz kc fg ps), (wBytes g tpa 900 tf), (wShelf g a L ln tp rd cnt era nws), (wRow g r m RL rlen)] (fun v_ w_ => ∃ RL9 : Int → Int, ∃ rl9 : Int, ∃ fg9 : Int, ∃ ps9 : Int, ∃ fk9 : Int, ∃ fp9 : Int, ∃ eo9 : Int → Int, ∃ es9 : Int → Int, ∃ ep9 : Int → Int, ∃ dp9 : Int, ∃ ss9 : Int, ∃ pp9 : Int, ∃ sg9 : Int, ∃ L9 : Int → Int, ∃ ln9 : Int → Int, ∃ cnt9 : Int, v_ = none ∧ w_ = [(wBook g bk (k 0) (a 0) (r 0) eo9 es9 ep9 dp9 ss9 pp9 sg9 us fk9 fp9), (wTok g k tpa kk kp kn sz kc fg9 ps9), (wBytes g tpa 900 tf), (wShelf g a L9 ln9 tp rd cnt9 era nws), (wRow g r m RL9 rl9)] ∧ ((lineE (bkOf tf sz) (tsOf L ln cnt) fg.toNat = .ok (tsOf L9 ln9 cnt9, fg9.toNat) ∧ fk9 = 0 ∧ fg < fg9) ∨ (lineE (bkOf tf sz) (tsOf L ln cnt) fg.toNat = .error (fk9, fp9) ∧ fk9 ≠ 0)) ∧ (ShOk L9 ln9 cnt9) ∧ (0 ≤ fg9 ∧ fg9 < kc) ∧ (-1 ≤ fk9 ∧ fk9 ≤ 9) ∧ (BR RL9) ∧ (R32 eo9)) := by
  refine Ct.of (by decide) (Nat.le_of_ble_eq_true rfl) (lv := [(0, .ref (bk 0))]) rfl ?_
  intro E hE hR hnm
  have hkc := hK.1
  have hc := hsh.1
  have hbk := bkG_of hK hsh
  have cut34 : ∀ (N : Nat) (RL9 : Int → Int) (rl9 : Int) (fg9 : Int) (ps9 : Int) (fk9 : Int) (fp9 : Int) (eo9 : Int → Int) (es9 : Int → Int) (ep9 : Int → Int) (dp9 : Int) (ss9 : Int) (pp9 : Int) (sg9 : Int) (t : Int) (i : Int) (q1 : Nat), (fk9 = 0 → (headE (bkOf tf sz) (tsOf L ln cnt) fg.toNat = .ok (t.toNat, q1) ∧ (q1 ≤ (kc - 1).toNat ∧ fg.toNat < q1) ∧ (0 ≤ t ∧ t ≤ cnt ∧ t < 8)) ∧ Fin_ (bkOf tf sz) (tsOf L ln cnt) (psOf fg9 RL9 rl9 eo9 es9 ep9 dp9 ss9 pp9 sg9) (bodyE (bkOf tf sz) (tsOf L ln cnt) q1) ∧ PsOk (psOf fg9 RL9 rl9 eo9 es9 ep9 dp9 ss9 pp9 sg9) ∧ ps9 = (bkOf tf sz).P (fg9.toNat - 1) ∧ i ≤ fg9) → (fk9 ≠ 0 → lineE (bkOf tf sz) (tsOf L ln cnt) fg.toNat = .error (fk9, fp9)) → (0 ≤ i ∧ i ≤ 901) → (-1 ≤ t ∧ t ≤ 9999) → (0 ≤ fg9 ∧ fg9 < kc) → (-1 ≤ fk9 ∧ fk9 ≤ 9) → (BR RL9) → (0 ≤ rl9 ∧ rl9 ≤ 4800) → (0 ≤ dp9 ∧ dp9 ≤ 6) → (R32 eo9) → (902 - i).toNat < N → G g E 4 0 0 [(wBook g bk (k 0) (a 0) (r 0) eo9 es9 ep9 dp9 ss9 pp9 sg9 us fk9 fp9), (wTok g k tpa kk kp kn sz kc fg9 ps9), (wBytes g tpa 900 tf), (wShelf g a L ln tp rd cnt era nws), (wRow g r m RL9 rl9)] 34 [(0, .ref (bk 0)), (1, .int (iI t)), (2, .int (iI i))] [] := by
    intro N
    induction N with
    | zero => intro RL9 rl9 fg9 ps9 fk9 fp9 eo9 es9 ep9 dp9 ss9 pp9 sg9 t i q1 _ _ _ _ _ _ _ _ _ _ hN; exact absurd hN (Nat.not_lt_zero _)
    | succ N ih34 =>
      intro RL9 rl9 fg9 ps9 fk9 fp9 eo9 es9 ep9 dp9 ss9 pp9 sg9 t i q1 hA hE_ hi ht9 hg9 hfk9 hB9 hr9 hd9 hE9 hN
      have hat9 := hK.at hg9
      have cut124 : (fk9 = 0 → sg9 = 3) → G g E 4 0 0 [(wBook g bk (k 0) (a 0) (r 0) eo9 es9 ep9 dp9 ss9 pp9 sg9 us fk9 fp9), (wTok g k tpa kk kp kn sz kc fg9 ps9), (wBytes g tpa 900 tf), (wShelf g a L ln tp rd cnt era nws), (wRow g r m RL9 rl9)] 124 [(0, .ref (bk 0)), (1, .int (iI t)), (2, .int (iI i))] [] := by
        intro h3
        refine r_aload_n 125 hE 0 dX0_readLine_124 rfl rfl rfl ?_
        refine r_get 128 hE 0 0 ok0 11 dX0_readLine_125 rfl wd_138 rfl rfl (by decide) rfl ?_
        refine r_if_ne 131 143 hE dX0_readLine_128 rfl (by decide) (by omega) (fun c128 => ?_) (fun c128 => ?_)
        · skip
          refine r_return hE hR [(wBook g bk (k 0) (a 0) (r 0) eo9 es9 ep9 dp9 ss9 pp9 sg9 us fk9 fp9), (wTok g k tpa kk kp kn sz kc fg9 ps9), (wBytes g tpa 900 tf), (wShelf g a L ln tp rd cnt era nws), (wRow g r m RL9 rl9)] dX0_readLine_143 (Nat.le_of_ble_eq_true rfl) (Nat.le_of_ble_eq_true rfl) rfl ?_
          first
            | exact ⟨_, _, _, _, _, _, _, _, _, _, _, _, _, L, ln, cnt, rfl, rfl, Or.inr ⟨hE_ c128, c128⟩, hsh, hg9, hfk9, hB9, hE9⟩
            | exact ⟨_, _, _, _, _, _, _, _, _, _, _, _, _, _, _, _, rfl, rfl, Or.inl ⟨by rw [tsOf_write hsh ⟨hA1.1.2.2.1, hA1.1.2.2.2.1⟩ ⟨hr9.1, hlr⟩]; exact line_ok hA1.1.1 hdn, c128, by have h8 := hbl.2.2; have h7 := hA1.1.2.1.2; simp only [psOf] at h8; omega⟩, hsh.write hA1.1.2.2 (by omega) hB9 hlt, hg9, hfk9, hB9, hE9⟩
        · skip
          have hA1 := hA c128
          have hdn := hA1.2.1.done (h3 c128)
          have hbl := body_len hbk.ok hA1.1.2.1.1 hdn
          have hlr : (rl9 : Int) ≤ 600 := by have h9 := hbl.1; simp only [psOf] at h9; rw [rowL_lenI _ hr9.1] at h9; exact h9
          have hps := hA1.2.2.1
          have hgt := (hps.2.2.2.2.1 (by show sg9 ≠ 0; rw [h3 c128]; decide)).1
          have hrm := hps.room
          simp only [psOf] at hgt hrm
          rw [rowL_lenI _ hr9.1] at hgt hrm
          have hlt : ∀ k, 0 ≤ k → k < rl9 → 0 ≤ RL9 k ∧ RL9 k ≤ 25 := fun k a b => hps.2.2.1 (RL9 k) (by
              have h9 := rowL_get RL9 (n := rl9) (i := k.toNat) (by omega)
              rw [Int.toNat_of_nonneg a] at h9
              exact List.mem_of_getElem? h9)
          refine r_aload_n 132 hE 0 dX0_readLine_131 rfl rfl rfl ?_
          refine r_get 135 hE 0 0 ok0 1 dX0_readLine_132 rfl wd_126 rfl rfl (by decide) rfl ?_
          refine r_iload_n 136 hE 1 dX0_readLine_135 rfl rfl rfl ?_
          refine r_aload_n 137 hE 0 dX0_readLine_136 rfl rfl rfl ?_
          refine r_get 140 hE 0 0 ok0 2 dX0_readLine_137 rfl wd_128 rfl rfl (by decide) rfl ?_
          refine r_callV 143 hE [3, 4] [0, 1, 2] [(wShelf g a L ln tp rd cnt era nws), (wRow g r m RL9 rl9)] [(wBook g bk (k 0) (a 0) (r 0) eo9 es9 ep9 dp9 ss9 pp9 sg9 us fk9 fp9), (wTok g k tpa kk kp kn sz kc fg9 ps9), (wBytes g tpa 900 tf)] 0 5 ok5 [] (c_X5_write (by omega) (by omega) (by omega) (hB9)) dX0_readLine_140 rfl rfl wd_612 wd_613 wd_614 wd_4 wd_615 ne_X5 np_X5_write (Nat.le_of_ble_eq_true rfl)  (by decide) (by decide) rfl (Nat.le_of_ble_eq_true rfl) rfl rfl rfl rfl (by decide) rfl (fun v1 f1 hp => ?_)
          obtain ⟨rfl, rfl⟩ := hp
          show G g E _ _ _ [(wShelf g a (cpy RL9 L 0 (t * 600) rl9) (up ln t rl9) tp rd (max cnt (t + 1)) era nws), (wRow g r m RL9 rl9), (wBook g bk (k 0) (a 0) (r 0) eo9 es9 ep9 dp9 ss9 pp9 sg9 us fk9 fp9), (wTok g k tpa kk kp kn sz kc fg9 ps9), (wBytes g tpa 900 tf)] 143 [(0, .ref (bk 0)), (1, .int (iI t)), (2, .int (iI i))] []
          refine G.to (fs' := [(wBook g bk (k 0) (a 0) (r 0) eo9 es9 ep9 dp9 ss9 pp9 sg9 us fk9 fp9), (wTok g k tpa kk kp kn sz kc fg9 ps9), (wBytes g tpa 900 tf), (wShelf g a (cpy RL9 L 0 (t * 600) rl9) (up ln t rl9) tp rd (max cnt (t + 1)) era nws), (wRow g r m RL9 rl9)]) [2, 3, 4, 0, 1] [0, 1, 2] rfl rfl rfl ?_
          refine r_return hE hR [(wBook g bk (k 0) (a 0) (r 0) eo9 es9 ep9 dp9 ss9 pp9 sg9 us fk9 fp9), (wTok g k tpa kk kp kn sz kc fg9 ps9), (wBytes g tpa 900 tf), (wShelf g a (cpy RL9 L 0 (t * 600) rl9) (up ln t rl9) tp rd (max cnt (t + 1)) era nws), (wRow g r m RL9 rl9)] dX0_readLine_143 (Nat.le_of_ble_eq_true rfl) (Nat.le_of_ble_eq_true rfl) rfl ?_
          first
            | exact ⟨_, _, _, _, _, _, _, _, _, _, _, _, _, L, ln, cnt, rfl, rfl, Or.inr ⟨hE_ c128, c128⟩, hsh, hg9, hfk9, hB9, hE9⟩
            | exact ⟨_, _, _, _, _, _, _, _, _, _, _, _, _, _, _, _, rfl, rfl, Or.inl ⟨by rw [tsOf_write hsh ⟨hA1.1.2.2.1, hA1.1.2.2.2.1⟩ ⟨hr9.1, hlr⟩]; exact line_ok hA1.1.1 hdn, c128, by have h8 := hbl.2.2; have h7 := hA1.1.2.1.2; simp only [psOf] at h8; omega⟩, hsh.write hA1.1.2.2 (by omega) hB9 hlt, hg9, hfk9, hB9, hE9⟩
      refine r_iload_n 35 hE 2 dX0_readLine_34 rfl rfl rfl ?_
      refine r_sipush 38 hE dX0_readLine_35 rfl (by decide) ?_
      refine r_icmp_gt 41 124 hE dX0_readLine_38 rfl (by decide) (by omega) (fun c38 => ?_) (fun c38 => ?_)
      · skip
        exact cut124  (by first | exact (fun _ => c53) | exact (fun z => absurd z c45) | exact (fun z => by have := (hA z).2.2.2.2; omega))
      · skip
        refine r_aload_n 42 hE 0 dX0_readLine_41 rfl rfl rfl ?_
        refine r_get 45 hE 0 0 ok0 11 dX0_readLine_42 rfl wd_138 rfl rfl (by decide) rfl ?_
        refine r_if_ne 48 124 hE dX0_readLine_45 rfl (by decide) (by omega) (fun c45 => ?_) (fun c45 => ?_)
        · skip
          exact cut124  (by first | exact (fun _ => c53) | exact (fun z => absurd z c45) | exact (fun z => by have := (hA z).2.2.2.2; omega))
        · skip
          refine r_aload_n 49 hE 0 dX0_readLine_48 rfl rfl rfl ?_
          refine r_get 52 hE 0 0 ok0 9 dX0_readLine_49 rfl wd_135 rfl rfl (by decide) rfl ?_
          refine r_iconst 53 hE dX0_readLine_52 rfl ?_
          refine r_icmp_eq 56 124 hE dX0_readLine_53 rfl (by decide) (by have h9 := (hA c45).2.2.1.2.2.2.2.2; simp only [stg, psOf] at h9; omega) (fun c53 => ?_) (fun c53 => ?_)
          · skip
            exact cut124  (by first | exact (fun _ => c53) | exact (fun z => absurd z c45) | exact (fun z => by have := (hA z).2.2.2.2; omega))
          · skip
            refine r_aload_n 57 hE 0 dX0_readLine_56 rfl rfl rfl ?_
            refine r_get 60 hE 0 0 ok0 0 dX0_readLine_57 rfl wd_124 rfl rfl (by decide) rfl ?_
            refine r_callV 63 hE [1] [0, 2, 3, 4] [(wTok g k tpa kk kp kn sz kc fg9 ps9)] [(wBook g bk (k 0) (a 0) (r 0) eo9 es9 ep9 dp9 ss9 pp9 sg9 us fk9 fp9), (wBytes g tpa 900 tf), (wShelf g a L ln tp rd cnt era nws), (wRow g r m RL9 rl9)] 0 6 ok6 [] (c_X6_kind (by omega)) dX0_readLine_60 rfl rfl wd_507 wd_508 wd_509 wd_3 wd_510 ne_X6 np_X6_kind (Nat.le_of_ble_eq_true rfl)  (by decide) (by decide) rfl (Nat.le_of_ble_eq_true rfl) rfl rfl rfl rfl (by decide) rfl (fun v1 f1 hp => ?_)
            obtain ⟨rfl, rfl⟩ := hp
            show G g E _ _ _ [(wTok g k tpa kk kp kn sz kc fg9 ps9), (wBook g bk (k 0) (a 0) (r 0) eo9 es9 ep9 dp9 ss9 pp9 sg9 us fk9 fp9), (wBytes g tpa 900 tf), (wShelf g a L ln tp rd cnt era nws), (wRow g r m RL9 rl9)] 63 [(0, .ref (bk 0)), (1, .int (iI t)), (2, .int (iI i))] [.int (iI (kk fg9))]
            refine r_istore_n 64 hE [(3, .int (iI (kk fg9))), (0, .ref (bk 0)), (1, .int (iI t)), (2, .int (iI i))] dX0_readLine_63 rfl rfl (by decide) rfl ?_
            refine r_aload_n 65 hE 1 dX0_readLine_64 rfl rfl rfl ?_
            refine r_get 68 hE 1 0 ok0 9 dX0_readLine_65 rfl wd_135 rfl rfl (by decide) rfl ?_
            refine r_if_ne 71 79 hE dX0_readLine_68 rfl (by decide) (by have h9 := (hA c45).2.2.1.2.2.2.2.2; simp only [stg, psOf] at h9; omega) (fun c68 => ?_) (fun c68 => ?_)
            · skip
              refine r_iload_n 80 hE 0 dX0_readLine_79 rfl rfl rfl ?_
              refine r_bipush 82 hE dX0_readLine_80 rfl (by decide) ?_
              refine r_icmp_ne 85 92 hE dX0_readLine_82 rfl (by decide) (by omega) (fun c82 => ?_) (fun c82 => ?_)
              · skip
                refine r_iload_n 93 hE 0 dX0_readLine_92 rfl rfl rfl ?_
                refine r_bipush 95 hE dX0_readLine_93 rfl (by decide) ?_
                refine r_icmp_ne 98 113 hE dX0_readLine_95 rfl (by decide) (by omega) (fun c95 => ?_) (fun c95 => ?_)
                · skip
                  refine r_aload_n 114 hE 1 dX0_readLine_113 rfl rfl rfl ?_
                  refine r_iload_n 115 hE 0 dX0_readLine_114 rfl rfl rfl ?_
                  refine r_callV 118 hE [1, 0, 4] [2, 3] [(wBook g bk (k 0) (a 0) (r 0) eo9 es9 ep9 dp9 ss9 pp9 sg9 us fk9 fp9), (wTok g k tpa kk kp kn sz kc fg9 ps9), (wRow g r m RL9 rl9)] [(wBytes g tpa 900 tf), (wShelf g a L ln tp rd cnt era nws)] 0 0 ok0 [] (c_X0_endProduct (T := tsOf L ln cnt) (hK) (by omega) (by omega) ((hA c45).2.2.1) (by omega) (by omega) (hB9) (by omega) (hE9) (c68) (c82) (by omega) ((hA c45).2.2.2.1)) dX0_readLine_115 rfl rfl wd_608 wd_610 ws_21 wd_2 wd_611 ne_X0 np_X0_endProduct (Nat.le_of_ble_eq_true rfl)  (by decide) (by decide) rfl (Nat.le_of_ble_eq_true rfl) rfl rfl rfl rfl (by decide) rfl (fun v1 f1 hp => ?_)
                  obtain ⟨RL9_115, rl9_115, fg9_115, ps9_115, fk9_115, fp9_115, dp9_115, ss9_115, pp9_115, sg9_115, rfl, rfl, h115_0, h115_1, h115_2, h115_3, h115_4, h115_5, h115_6⟩ := hp
                  show G g E _ _ _ [(wBook g bk (k 0) (a 0) (r 0) eo9 es9 ep9 dp9_115 ss9_115 pp9_115 sg9_115 us fk9_115 fp9_115), (wTok g k tpa kk kp kn sz kc fg9_115 ps9_115), (wRow g r m RL9_115 rl9_115), (wBytes g tpa 900 tf), (wShelf g a L ln tp rd cnt era nws)] 118 [(3, .int (iI (kk fg9))), (0, .ref (bk 0)), (1, .int (iI t)), (2, .int (iI i))] []
                  have hA1 := hA c45
                  have hs := line_step hbk hA1.2.1 hA1.2.2.1 (show stg (psOf fg9 RL9 rl9 eo9 es9 ep9 dp9 ss9 pp9 sg9) ≠ 3 from c53) h115_0
                  have hA2 : fk9_115 = 0 → (headE (bkOf tf sz) (tsOf L ln cnt) fg.toNat = .ok (t.toNat, q1) ∧ (q1 ≤ (kc - 1).toNat ∧ fg.toNat < q1) ∧ (0 ≤ t ∧ t ≤ cnt ∧ t < 8)) ∧ Fin_ (bkOf tf sz) (tsOf L ln cnt) (psOf fg9_115 RL9_115 rl9_115 eo9 es9 ep9 dp9_115 ss9_115 pp9_115 sg9_115) (bodyE (bkOf tf sz) (tsOf L ln cnt) q1) ∧ PsOk (psOf fg9_115 RL9_115 rl9_115 eo9 es9 ep9 dp9_115 ss9_115 pp9_115 sg9_115) ∧ ps9_115 = (bkOf tf sz).P (fg9_115.toNat - 1) ∧ i + 1 ≤ fg9_115 := fun q => ⟨hA1.1, (hs.1 q).1, (hs.1 q).2, (h115_1 q).2, by have h8 := (h115_1 q).1; have h7 := hA1.2.2.2.2; omega⟩
                  have hE2 : fk9_115 ≠ 0 → lineE (bkOf tf sz) (tsOf L ln cnt) fg.toNat = .error (fk9_115, fp9_115) := fun q => line_er hA1.1.1 (hs.2 q)
                  refine r_iinc 121 hE 3 (i + 1) [(2, .int (iI (i + 1))), (3, .int (iI (kk fg9))), (0, .ref (bk 0)), (1, .int (iI t))] dX0_readLine_118 rfl rfl rfl (by decide) rfl ?_
                  refine r_goto 34 hE dX0_readLine_121 (by decide) ?_
                  refine G.to (fs' := [(wBook g bk (k 0) (a 0) (r 0) eo9 es9 ep9 dp9_115 ss9_115 pp9_115 sg9_115 us fk9_115 fp9_115), (wTok g k tpa kk kp kn sz kc fg9_115 ps9_115), (wBytes g tpa 900 tf), (wShelf g a L ln tp rd cnt era nws), (wRow g r m RL9_115 rl9_115)]) (lv' := [(0, .ref (bk 0)), (1, .int (iI t)), (2, .int (iI (i + 1)))]) [0, 1, 3, 4, 2] [2, 3, 0] rfl rfl rfl ?_
                  exact ih34 RL9_115 rl9_115 fg9_115 ps9_115 fk9_115 fp9_115 eo9 es9 ep9 dp9_115 ss9_115 pp9_115 sg9_115 t (i + 1) q1 (by first | exact hA2 | exact hA0) (by first | exact hE2 | exact hE0) (by omega) (by omega) (by first | exact h1_1 | exact h73_2 | exact h86_2 | exact h107_2 | exact h115_2) (by first | exact h1_2 | exact h73_3 | exact h86_3 | exact h107_3 | exact h115_3) (by first | exact h73_4 | exact h86_4 | exact h107_4 | exact h115_4 | exact hBR) (by first | exact h73_5 | exact h86_5 | exact h107_5 | exact h115_5 | omega) (by first | exact h73_6 | exact h115_6 | omega) (by first | exact h73_7 | exact hE9 | exact hEo) (by omega)
                · skip
                  refine r_aload_n 99 hE 1 dX0_readLine_98 rfl rfl rfl ?_
                  refine r_get 102 hE 1 0 ok0 9 dX0_readLine_99 rfl wd_135 rfl rfl (by decide) rfl ?_
                  refine r_iconst 103 hE dX0_readLine_102 rfl ?_
                  refine r_icmp_ne 106 113 hE dX0_readLine_103 rfl (by decide) (by have h9 := (hA c45).2.2.1.2.2.2.2.2; simp only [stg, psOf] at h9; omega) (fun c103 => ?_) (fun c103 => ?_)
                  · skip
                    refine r_aload_n 114 hE 1 dX0_readLine_113 rfl rfl rfl ?_
                    refine r_iload_n 115 hE 0 dX0_readLine_114 rfl rfl rfl ?_
                    refine r_callV 118 hE [1, 0, 4] [2, 3] [(wBook g bk (k 0) (a 0) (r 0) eo9 es9 ep9 dp9 ss9 pp9 sg9 us fk9 fp9), (wTok g k tpa kk kp kn sz kc fg9 ps9), (wRow g r m RL9 rl9)] [(wBytes g tpa 900 tf), (wShelf g a L ln tp rd cnt era nws)] 0 0 ok0 [] (c_X0_endProduct (T := tsOf L ln cnt) (hK) (by omega) (by omega) ((hA c45).2.2.1) (by omega) (by omega) (hB9) (by omega) (hE9) (c68) (c82) (by omega) ((hA c45).2.2.2.1)) dX0_readLine_115 rfl rfl wd_608 wd_610 ws_21 wd_2 wd_611 ne_X0 np_X0_endProduct (Nat.le_of_ble_eq_true rfl)  (by decide) (by decide) rfl (Nat.le_of_ble_eq_true rfl) rfl rfl rfl rfl (by decide) rfl (fun v1 f1 hp => ?_)
                    obtain ⟨RL9_115, rl9_115, fg9_115, ps9_115, fk9_115, fp9_115, dp9_115, ss9_115, pp9_115, sg9_115, rfl, rfl, h115_0, h115_1, h115_2, h115_3, h115_4, h115_5, h115_6⟩ := hp
                    show G g E _ _ _ [(wBook g bk (k 0) (a 0) (r 0) eo9 es9 ep9 dp9_115 ss9_115 pp9_115 sg9_115 us fk9_115 fp9_115), (wTok g k tpa kk kp kn sz kc fg9_115 ps9_115), (wRow g r m RL9_115 rl9_115), (wBytes g tpa 900 tf), (wShelf g a L ln tp rd cnt era nws)] 118 [(3, .int (iI (kk fg9))), (0, .ref (bk 0)), (1, .int (iI t)), (2, .int (iI i))] []
                    have hA1 := hA c45
                    have hs := line_step hbk hA1.2.1 hA1.2.2.1 (show stg (psOf fg9 RL9 rl9 eo9 es9 ep9 dp9 ss9 pp9 sg9) ≠ 3 from c53) h115_0
                    have hA2 : fk9_115 = 0 → (headE (bkOf tf sz) (tsOf L ln cnt) fg.toNat = .ok (t.toNat, q1) ∧ (q1 ≤ (kc - 1).toNat ∧ fg.toNat < q1) ∧ (0 ≤ t ∧ t ≤ cnt ∧ t < 8)) ∧ Fin_ (bkOf tf sz) (tsOf L ln cnt) (psOf fg9_115 RL9_115 rl9_115 eo9 es9 ep9 dp9_115 ss9_115 pp9_115 sg9_115) (bodyE (bkOf tf sz) (tsOf L ln cnt) q1) ∧ PsOk (psOf fg9_115 RL9_115 rl9_115 eo9 es9 ep9 dp9_115 ss9_115 pp9_115 sg9_115) ∧ ps9_115 = (bkOf tf sz).P (fg9_115.toNat - 1) ∧ i + 1 ≤ fg9_115 := fun q => ⟨hA1.1, (hs.1 q).1, (hs.1 q).2, (h115_1 q).2, by have h8 := (h115_1 q).1; have h7 := hA1.2.2.2.2; omega⟩
                    have hE2 : fk9_115 ≠ 0 → lineE (bkOf tf sz) (tsOf L ln cnt) fg.toNat = .error (fk9_115, fp9_115) := fun q => line_er hA1.1.1 (hs.2 q)
                    refine r_iinc 121 hE 3 (i + 1) [(2, .int (iI (i + 1))), (3, .int (iI (kk fg9))), (0, .ref (bk 0)), (1, .int (iI t))] dX0_readLine_118 rfl rfl rfl (by decide) rfl ?_
                    refine r_goto 34 hE dX0_readLine_121 (by decide) ?_
                    refine G.to (fs' := [(wBook g bk (k 0) (a 0) (r 0) eo9 es9 ep9 dp9_115 ss9_115 pp9_115 sg9_115 us fk9_115 fp9_115), (wTok g k tpa kk kp kn sz kc fg9_115 ps9_115), (wBytes g tpa 900 tf), (wShelf g a L ln tp rd cnt era nws), (wRow g r m RL9_115 rl9_115)]) (lv' := [(0, .ref (bk 0)), (1, .int (iI t)), (2, .int (iI (i + 1)))]) [0, 1, 3, 4, 2] [2, 3, 0] rfl rfl rfl ?_
                    exact ih34 RL9_115 rl9_115 fg9_115 ps9_115 fk9_115 fp9_115 eo9 es9 ep9 dp9_115 ss9_115 pp9_115 sg9_115 t (i + 1) q1 (by first | exact hA2 | exact hA0) (by first | exact hE2 | exact hE0) (by omega) (by omega) (by first | exact h1_1 | exact h73_2 | exact h86_2 | exact h107_2 | exact h115_2) (by first | exact h1_2 | exact h73_3 | exact h86_3 | exact h107_3 | exact h115_3) (by first | exact h73_4 | exact h86_4 | exact h107_4 | exact h115_4 | exact hBR) (by first | exact h73_5 | exact h86_5 | exact h107_5 | exact h115_5 | omega) (by first | exact h73_6 | exact h115_6 | omega) (by first | exact h73_7 | exact hE9 | exact hEo) (by omega)
                  · skip
                    refine r_aload_n 107 hE 1 dX0_readLine_106 rfl rfl rfl ?_
                    refine r_callV 110 hE [1, 0, 4] [2, 3] [(wBook g bk (k 0) (a 0) (r 0) eo9 es9 ep9 dp9 ss9 pp9 sg9 us fk9 fp9), (wTok g k tpa kk kp kn sz kc fg9 ps9), (wRow g r m RL9 rl9)] [(wBytes g tpa 900 tf), (wShelf g a L ln tp rd cnt era nws)] 0 0 ok0 [] (c_X0_readCut (T := tsOf L ln cnt) (hK) (by omega) (by omega) ((hA c45).2.2.1) (by omega) (by omega) (hB9) (c103) (c95)) dX0_readLine_107 rfl rfl wd_600 wd_602 ws_20 wd_2 wd_603 ne_X0 np_X0_readCut (Nat.le_of_ble_eq_true rfl)  (by decide) (by decide) rfl (Nat.le_of_ble_eq_true rfl) rfl rfl rfl rfl (by decide) rfl (fun v1 f1 hp => ?_)
                    obtain ⟨RL9_107, rl9_107, fg9_107, ps9_107, fk9_107, fp9_107, rfl, rfl, h107_0, h107_1, h107_2, h107_3, h107_4, h107_5⟩ := hp
                    show G g E _ _ _ [(wBook g bk (k 0) (a 0) (r 0) eo9 es9 ep9 dp9 ss9 pp9 sg9 us fk9_107 fp9_107), (wTok g k tpa kk kp kn sz kc fg9_107 ps9_107), (wRow g r m RL9_107 rl9_107), (wBytes g tpa 900 tf), (wShelf g a L ln tp rd cnt era nws)] 110 [(3, .int (iI (kk fg9))), (0, .ref (bk 0)), (1, .int (iI t)), (2, .int (iI i))] []
                    have hA1 := hA c45
                    have hs := line_step hbk hA1.2.1 hA1.2.2.1 (show stg (psOf fg9 RL9 rl9 eo9 es9 ep9 dp9 ss9 pp9 sg9) ≠ 3 from c53) h107_0
                    have hA2 : fk9_107 = 0 → (headE (bkOf tf sz) (tsOf L ln cnt) fg.toNat = .ok (t.toNat, q1) ∧ (q1 ≤ (kc - 1).toNat ∧ fg.toNat < q1) ∧ (0 ≤ t ∧ t ≤ cnt ∧ t < 8)) ∧ Fin_ (bkOf tf sz) (tsOf L ln cnt) (psOf fg9_107 RL9_107 rl9_107 eo9 es9 ep9 dp9 ss9 pp9 sg9) (bodyE (bkOf tf sz) (tsOf L ln cnt) q1) ∧ PsOk (psOf fg9_107 RL9_107 rl9_107 eo9 es9 ep9 dp9 ss9 pp9 sg9) ∧ ps9_107 = (bkOf tf sz).P (fg9_107.toNat - 1) ∧ i + 1 ≤ fg9_107 := fun q => ⟨hA1.1, (hs.1 q).1, (hs.1 q).2, (h107_1 q).2, by have h8 := (h107_1 q).1; have h7 := hA1.2.2.2.2; omega⟩
                    have hE2 : fk9_107 ≠ 0 → lineE (bkOf tf sz) (tsOf L ln cnt) fg.toNat = .error (fk9_107, fp9_107) := fun q => line_er hA1.1.1 (hs.2 q)
                    refine r_goto 118 hE dX0_readLine_110 (by decide) ?_
                    refine r_iinc 121 hE 3 (i + 1) [(2, .int (iI (i + 1))), (3, .int (iI (kk fg9))), (0, .ref (bk 0)), (1, .int (iI t))] dX0_readLine_118 rfl rfl rfl (by decide) rfl ?_
                    refine r_goto 34 hE dX0_readLine_121 (by decide) ?_
                    refine G.to (fs' := [(wBook g bk (k 0) (a 0) (r 0) eo9 es9 ep9 dp9 ss9 pp9 sg9 us fk9_107 fp9_107), (wTok g k tpa kk kp kn sz kc fg9_107 ps9_107), (wBytes g tpa 900 tf), (wShelf g a L ln tp rd cnt era nws), (wRow g r m RL9_107 rl9_107)]) (lv' := [(0, .ref (bk 0)), (1, .int (iI t)), (2, .int (iI (i + 1)))]) [0, 1, 3, 4, 2] [2, 3, 0] rfl rfl rfl ?_
                    exact ih34 RL9_107 rl9_107 fg9_107 ps9_107 fk9_107 fp9_107 eo9 es9 ep9 dp9 ss9 pp9 sg9 t (i + 1) q1 (by first | exact hA2 | exact hA0) (by first | exact hE2 | exact hE0) (by omega) (by omega) (by first | exact h1_1 | exact h73_2 | exact h86_2 | exact h107_2 | exact h115_2) (by first | exact h1_2 | exact h73_3 | exact h86_3 | exact h107_3 | exact h115_3) (by first | exact h73_4 | exact h86_4 | exact h107_4 | exact h115_4 | exact hBR) (by first | exact h73_5 | exact h86_5 | exact h107_5 | exact h115_5 | omega) (by first | exact h73_6 | exact h115_6 | omega) (by first | exact h73_7 | exact hE9 | exact hEo) (by omega)
              · skip
                refine r_aload_n 86 hE 1 dX0_readLine_85 rfl rfl rfl ?_
                refine r_callV 89 hE [1, 0, 4] [2, 3] [(wBook g bk (k 0) (a 0) (r 0) eo9 es9 ep9 dp9 ss9 pp9 sg9 us fk9 fp9), (wTok g k tpa kk kp kn sz kc fg9 ps9), (wRow g r m RL9 rl9)] [(wBytes g tpa 900 tf), (wShelf g a L ln tp rd cnt era nws)] 0 0 ok0 [] (c_X0_readTimes (T := tsOf L ln cnt) (hK) (by omega) (by omega) ((hA c45).2.2.1) (by omega) (by omega) (hB9) (c68) (c82)) dX0_readLine_86 rfl rfl wd_592 wd_594 ws_19 wd_2 wd_595 ne_X0 np_X0_readTimes (Nat.le_of_ble_eq_true rfl)  (by decide) (by decide) rfl (Nat.le_of_ble_eq_true rfl) rfl rfl rfl rfl (by decide) rfl (fun v1 f1 hp => ?_)
                obtain ⟨RL9_86, rl9_86, fg9_86, ps9_86, fk9_86, fp9_86, sg9_86, rfl, rfl, h86_0, h86_1, h86_2, h86_3, h86_4, h86_5⟩ := hp
                show G g E _ _ _ [(wBook g bk (k 0) (a 0) (r 0) eo9 es9 ep9 dp9 ss9 pp9 sg9_86 us fk9_86 fp9_86), (wTok g k tpa kk kp kn sz kc fg9_86 ps9_86), (wRow g r m RL9_86 rl9_86), (wBytes g tpa 900 tf), (wShelf g a L ln tp rd cnt era nws)] 89 [(3, .int (iI (kk fg9))), (0, .ref (bk 0)), (1, .int (iI t)), (2, .int (iI i))] []
                have hA1 := hA c45
                have hs := line_step hbk hA1.2.1 hA1.2.2.1 (show stg (psOf fg9 RL9 rl9 eo9 es9 ep9 dp9 ss9 pp9 sg9) ≠ 3 from c53) h86_0
                have hA2 : fk9_86 = 0 → (headE (bkOf tf sz) (tsOf L ln cnt) fg.toNat = .ok (t.toNat, q1) ∧ (q1 ≤ (kc - 1).toNat ∧ fg.toNat < q1) ∧ (0 ≤ t ∧ t ≤ cnt ∧ t < 8)) ∧ Fin_ (bkOf tf sz) (tsOf L ln cnt) (psOf fg9_86 RL9_86 rl9_86 eo9 es9 ep9 dp9 ss9 pp9 sg9_86) (bodyE (bkOf tf sz) (tsOf L ln cnt) q1) ∧ PsOk (psOf fg9_86 RL9_86 rl9_86 eo9 es9 ep9 dp9 ss9 pp9 sg9_86) ∧ ps9_86 = (bkOf tf sz).P (fg9_86.toNat - 1) ∧ i + 1 ≤ fg9_86 := fun q => ⟨hA1.1, (hs.1 q).1, (hs.1 q).2, (h86_1 q).2, by have h8 := (h86_1 q).1; have h7 := hA1.2.2.2.2; omega⟩
                have hE2 : fk9_86 ≠ 0 → lineE (bkOf tf sz) (tsOf L ln cnt) fg.toNat = .error (fk9_86, fp9_86) := fun q => line_er hA1.1.1 (hs.2 q)
                refine r_goto 118 hE dX0_readLine_89 (by decide) ?_
                refine r_iinc 121 hE 3 (i + 1) [(2, .int (iI (i + 1))), (3, .int (iI (kk fg9))), (0, .ref (bk 0)), (1, .int (iI t))] dX0_readLine_118 rfl rfl rfl (by decide) rfl ?_
                refine r_goto 34 hE dX0_readLine_121 (by decide) ?_
                refine G.to (fs' := [(wBook g bk (k 0) (a 0) (r 0) eo9 es9 ep9 dp9 ss9 pp9 sg9_86 us fk9_86 fp9_86), (wTok g k tpa kk kp kn sz kc fg9_86 ps9_86), (wBytes g tpa 900 tf), (wShelf g a L ln tp rd cnt era nws), (wRow g r m RL9_86 rl9_86)]) (lv' := [(0, .ref (bk 0)), (1, .int (iI t)), (2, .int (iI (i + 1)))]) [0, 1, 3, 4, 2] [2, 3, 0] rfl rfl rfl ?_
                exact ih34 RL9_86 rl9_86 fg9_86 ps9_86 fk9_86 fp9_86 eo9 es9 ep9 dp9 ss9 pp9 sg9_86 t (i + 1) q1 (by first | exact hA2 | exact hA0) (by first | exact hE2 | exact hE0) (by omega) (by omega) (by first | exact h1_1 | exact h73_2 | exact h86_2 | exact h107_2 | exact h115_2) (by first | exact h1_2 | exact h73_3 | exact h86_3 | exact h107_3 | exact h115_3) (by first | exact h73_4 | exact h86_4 | exact h107_4 | exact h115_4 | exact hBR) (by first | exact h73_5 | exact h86_5 | exact h107_5 | exact h115_5 | omega) (by first | exact h73_6 | exact h115_6 | omega) (by first | exact h73_7 | exact hE9 | exact hEo) (by omega)
            · skip
              refine r_aload_n 72 hE 1 dX0_readLine_71 rfl rfl rfl ?_
              refine r_iload_n 73 hE 0 dX0_readLine_72 rfl rfl rfl ?_
              refine r_callV 76 hE [1, 0, 2, 3, 4] [] [(wBook g bk (k 0) (a 0) (r 0) eo9 es9 ep9 dp9 ss9 pp9 sg9 us fk9 fp9), (wTok g k tpa kk kp kn sz kc fg9 ps9), (wBytes g tpa 900 tf), (wShelf g a L ln tp rd cnt era nws), (wRow g r m RL9 rl9)] [] 0 0 ok0 [] (c_X0_readCore (hK) (by omega) (by omega) (hsh) ((hA c45).2.2.1) (by omega) (by omega) (by omega) (hB9) (hE9) (c68)) dX0_readLine_73 rfl rfl wd_552 wd_554 ws_15 wd_2 wd_555 ne_X0 np_X0_readCore (Nat.le_of_ble_eq_true rfl)  (by decide) (by decide) rfl (Nat.le_of_ble_eq_true rfl) rfl rfl rfl rfl (by decide) rfl (fun v1 f1 hp => ?_)
              obtain ⟨RL9_73, rl9_73, fg9_73, ps9_73, fk9_73, fp9_73, eo9_73, es9_73, ep9_73, dp9_73, ss9_73, pp9_73, sg9_73, rfl, rfl, h73_0, h73_1, h73_2, h73_3, h73_4, h73_5, h73_6, h73_7⟩ := hp
              show G g E _ _ _ [(wBook g bk (k 0) (a 0) (r 0) eo9_73 es9_73 ep9_73 dp9_73 ss9_73 pp9_73 sg9_73 us fk9_73 fp9_73), (wTok g k tpa kk kp kn sz kc fg9_73 ps9_73), (wBytes g tpa 900 tf), (wShelf g a L ln tp rd cnt era nws), (wRow g r m RL9_73 rl9_73)] 76 [(3, .int (iI (kk fg9))), (0, .ref (bk 0)), (1, .int (iI t)), (2, .int (iI i))] []
              have hA1 := hA c45
              have hs := line_step hbk hA1.2.1 hA1.2.2.1 (show stg (psOf fg9 RL9 rl9 eo9 es9 ep9 dp9 ss9 pp9 sg9) ≠ 3 from c53) h73_0
              have hA2 : fk9_73 = 0 → (headE (bkOf tf sz) (tsOf L ln cnt) fg.toNat = .ok (t.toNat, q1) ∧ (q1 ≤ (kc - 1).toNat ∧ fg.toNat < q1) ∧ (0 ≤ t ∧ t ≤ cnt ∧ t < 8)) ∧ Fin_ (bkOf tf sz) (tsOf L ln cnt) (psOf fg9_73 RL9_73 rl9_73 eo9_73 es9_73 ep9_73 dp9_73 ss9_73 pp9_73 sg9_73) (bodyE (bkOf tf sz) (tsOf L ln cnt) q1) ∧ PsOk (psOf fg9_73 RL9_73 rl9_73 eo9_73 es9_73 ep9_73 dp9_73 ss9_73 pp9_73 sg9_73) ∧ ps9_73 = (bkOf tf sz).P (fg9_73.toNat - 1) ∧ i + 1 ≤ fg9_73 := fun q => ⟨hA1.1, (hs.1 q).1, (hs.1 q).2, (h73_1 q).2, by have h8 := (h73_1 q).1; have h7 := hA1.2.2.2.2; omega⟩
              have hE2 : fk9_73 ≠ 0 → lineE (bkOf tf sz) (tsOf L ln cnt) fg.toNat = .error (fk9_73, fp9_73) := fun q => line_er hA1.1.1 (hs.2 q)
              refine r_goto 118 hE dX0_readLine_76 (by decide) ?_
              refine r_iinc 121 hE 3 (i + 1) [(2, .int (iI (i + 1))), (3, .int (iI (kk fg9))), (0, .ref (bk 0)), (1, .int (iI t))] dX0_readLine_118 rfl rfl rfl (by decide) rfl ?_
              refine r_goto 34 hE dX0_readLine_121 (by decide) ?_
              refine G.to (fs' := [(wBook g bk (k 0) (a 0) (r 0) eo9_73 es9_73 ep9_73 dp9_73 ss9_73 pp9_73 sg9_73 us fk9_73 fp9_73), (wTok g k tpa kk kp kn sz kc fg9_73 ps9_73), (wBytes g tpa 900 tf), (wShelf g a L ln tp rd cnt era nws), (wRow g r m RL9_73 rl9_73)]) (lv' := [(0, .ref (bk 0)), (1, .int (iI t)), (2, .int (iI (i + 1)))]) [0, 1, 2, 3, 4] [2, 3, 0] rfl rfl rfl ?_
              exact ih34 RL9_73 rl9_73 fg9_73 ps9_73 fk9_73 fp9_73 eo9_73 es9_73 ep9_73 dp9_73 ss9_73 pp9_73 sg9_73 t (i + 1) q1 (by first | exact hA2 | exact hA0) (by first | exact hE2 | exact hE0) (by omega) (by omega) (by first | exact h1_1 | exact h73_2 | exact h86_2 | exact h107_2 | exact h115_2) (by first | exact h1_2 | exact h73_3 | exact h86_3 | exact h107_3 | exact h115_3) (by first | exact h73_4 | exact h86_4 | exact h107_4 | exact h115_4 | exact hBR) (by first | exact h73_5 | exact h86_5 | exact h107_5 | exact h115_5 | omega) (by first | exact h73_6 | exact h115_6 | omega) (by first | exact h73_7 | exact hE9 | exact hEo) (by omega)
  refine r_aload_n 1 hE 0 dX0_readLine_0 rfl rfl rfl ?_
  refine r_callV 4 hE [0, 1, 3] [2, 4] [(wBook g bk (k 0) (a 0) (r 0) eo es ep dp ss pp sg us fk fp), (wTok g k tpa kk kp kn sz kc fg ps), (wShelf g a L ln tp rd cnt era nws)] [(wBytes g tpa 900 tf), (wRow g r m RL rlen)] 0 0 ok0 [] (c_X0_readHead (hK) (by omega) (by omega) (hsh)) dX0_readLine_1 rfl rfl wd_515 wd_517 ws_10 wd_2 wd_518 ne_X0 np_X0_readHead (Nat.le_of_ble_eq_true rfl)  (by decide) (by decide) rfl (Nat.le_of_ble_eq_true rfl) rfl rfl rfl rfl (by decide) rfl (fun v1 f1 hp => ?_)
  obtain ⟨t9_1, fg9_1, ps9_1, fk9_1, fp9_1, rfl, rfl, h1_0, h1_1, h1_2, h1_3⟩ := hp
  show G g E _ _ _ [(wBook g bk (k 0) (a 0) (r 0) eo es ep dp ss pp sg us fk9_1 fp9_1), (wTok g k tpa kk kp kn sz kc fg9_1 ps9_1), (wShelf g a L ln tp rd cnt era nws), (wBytes g tpa 900 tf), (wRow g r m RL rlen)] 4 [(0, .ref (bk 0))] [.int (iI t9_1)]
  have hA0 : fk9_1 = 0 → (headE (bkOf tf sz) (tsOf L ln cnt) fg.toNat = .ok (t9_1.toNat, fg9_1.toNat) ∧ (fg9_1.toNat ≤ (kc - 1).toNat ∧ fg.toNat < fg9_1.toNat) ∧ (0 ≤ t9_1 ∧ t9_1 ≤ cnt ∧ t9_1 < 8)) ∧ Fin_ (bkOf tf sz) (tsOf L ln cnt) (psOf fg9_1 RL 0 eo es ep 0 0 0 0) (bodyE (bkOf tf sz) (tsOf L ln cnt) fg9_1.toNat) ∧ PsOk (psOf fg9_1 RL 0 eo es ep 0 0 0 0) ∧ ps9_1 = (bkOf tf sz).P (fg9_1.toNat - 1) ∧ (0 : Int) ≤ fg9_1 := by
    intro q
    rcases h1_0 with z | z
    · exact ⟨⟨z.1, by omega, z.2.2.1⟩, m_body hbk.ok (by omega), ps_ok0, z.2.2.2.2, by omega⟩
    · exact absurd q z.2
  have hE0 : fk9_1 ≠ 0 → lineE (bkOf tf sz) (tsOf L ln cnt) fg.toNat = .error (fk9_1, fp9_1) := by
    intro q
    rcases h1_0 with z | z
    · exact absurd z.2.1 q
    · exact line_hd z.1
  refine r_istore_n 5 hE [(1, .int (iI t9_1)), (0, .ref (bk 0))] dX0_readLine_4 rfl rfl (by decide) rfl ?_
  refine r_aload_n 6 hE 1 dX0_readLine_5 rfl rfl rfl ?_
  refine r_get 9 hE 0 0 ok0 2 dX0_readLine_6 rfl wd_128 rfl rfl (by decide) rfl ?_
  refine r_callV 12 hE [4] [0, 1, 2, 3] [(wRow g r m RL rlen)] [(wBook g bk (k 0) (a 0) (r 0) eo es ep dp ss pp sg us fk9_1 fp9_1), (wTok g k tpa kk kp kn sz kc fg9_1 ps9_1), (wShelf g a L ln tp rd cnt era nws), (wBytes g tpa 900 tf)] 0 2 ok2 [] (c_X2_clear) dX0_readLine_9 rfl rfl wd_548 wd_549 wd_550 wd_5 wd_551 ne_X2 np_X2_clear (Nat.le_of_ble_eq_true rfl)  (by decide) (by decide) rfl (Nat.le_of_ble_eq_true rfl) rfl rfl rfl rfl (by decide) rfl (fun v1 f1 hp => ?_)
  obtain ⟨rfl, rfl⟩ := hp
  show G g E _ _ _ [(wRow g r m RL 0), (wBook g bk (k 0) (a 0) (r 0) eo es ep dp ss pp sg us fk9_1 fp9_1), (wTok g k tpa kk kp kn sz kc fg9_1 ps9_1), (wShelf g a L ln tp rd cnt era nws), (wBytes g tpa 900 tf)] 12 [(1, .int (iI t9_1)), (0, .ref (bk 0))] []
  refine r_aload_n 13 hE 1 dX0_readLine_12 rfl rfl rfl ?_
  refine r_iconst 14 hE dX0_readLine_13 rfl ?_
  refine r_put 17 hE 1 0 ok0 6 (wBook g bk (k 0) (a 0) (r 0) eo es ep 0 ss pp sg us fk9_1 fp9_1) [(wRow g r m RL 0), (wBook g bk (k 0) (a 0) (r 0) eo es ep 0 ss pp sg us fk9_1 fp9_1), (wTok g k tpa kk kp kn sz kc fg9_1 ps9_1), (wShelf g a L ln tp rd cnt era nws), (wBytes g tpa 900 tf)] dX0_readLine_14 rfl wd_132 rfl rfl (by decide) rfl rfl rfl (Nat.le_of_ble_eq_true rfl) rfl rfl ?_
  refine r_aload_n 18 hE 1 dX0_readLine_17 rfl rfl rfl ?_
  refine r_iconst 19 hE dX0_readLine_18 rfl ?_
  refine r_put 22 hE 1 0 ok0 7 (wBook g bk (k 0) (a 0) (r 0) eo es ep 0 0 pp sg us fk9_1 fp9_1) [(wRow g r m RL 0), (wBook g bk (k 0) (a 0) (r 0) eo es ep 0 0 pp sg us fk9_1 fp9_1), (wTok g k tpa kk kp kn sz kc fg9_1 ps9_1), (wShelf g a L ln tp rd cnt era nws), (wBytes g tpa 900 tf)] dX0_readLine_19 rfl wd_133 rfl rfl (by decide) rfl rfl rfl (Nat.le_of_ble_eq_true rfl) rfl rfl ?_
  refine r_aload_n 23 hE 1 dX0_readLine_22 rfl rfl rfl ?_
  refine r_iconst 24 hE dX0_readLine_23 rfl ?_
  refine r_put 27 hE 1 0 ok0 8 (wBook g bk (k 0) (a 0) (r 0) eo es ep 0 0 0 sg us fk9_1 fp9_1) [(wRow g r m RL 0), (wBook g bk (k 0) (a 0) (r 0) eo es ep 0 0 0 sg us fk9_1 fp9_1), (wTok g k tpa kk kp kn sz kc fg9_1 ps9_1), (wShelf g a L ln tp rd cnt era nws), (wBytes g tpa 900 tf)] dX0_readLine_24 rfl wd_134 rfl rfl (by decide) rfl rfl rfl (Nat.le_of_ble_eq_true rfl) rfl rfl ?_
  refine r_aload_n 28 hE 1 dX0_readLine_27 rfl rfl rfl ?_
  refine r_iconst 29 hE dX0_readLine_28 rfl ?_
  refine r_put 32 hE 1 0 ok0 9 (wBook g bk (k 0) (a 0) (r 0) eo es ep 0 0 0 0 us fk9_1 fp9_1) [(wRow g r m RL 0), (wBook g bk (k 0) (a 0) (r 0) eo es ep 0 0 0 0 us fk9_1 fp9_1), (wTok g k tpa kk kp kn sz kc fg9_1 ps9_1), (wShelf g a L ln tp rd cnt era nws), (wBytes g tpa 900 tf)] dX0_readLine_29 rfl wd_135 rfl rfl (by decide) rfl rfl rfl (Nat.le_of_ble_eq_true rfl) rfl rfl ?_
  refine r_iconst 33 hE dX0_readLine_32 rfl ?_
  refine r_istore_n 34 hE [(2, .int (iI 0)), (1, .int (iI t9_1)), (0, .ref (bk 0))] dX0_readLine_33 rfl rfl (by decide) rfl ?_
  refine G.to (fs' := [(wBook g bk (k 0) (a 0) (r 0) eo es ep 0 0 0 0 us fk9_1 fp9_1), (wTok g k tpa kk kp kn sz kc fg9_1 ps9_1), (wBytes g tpa 900 tf), (wShelf g a L ln tp rd cnt era nws), (wRow g r m RL 0)]) (lv' := [(0, .ref (bk 0)), (1, .int (iI t9_1)), (2, .int (iI 0))]) [1, 2, 4, 3, 0] [2, 1, 0] rfl rfl rfl ?_
  exact cut34 _ RL 0 fg9_1 ps9_1 fk9_1 fp9_1 eo es ep 0 0 0 0 t9_1 0 fg9_1.toNat (by first | exact hA2 | exact hA0) (by first | exact hE2 | exact hE0) (by omega) (by omega) (by first | exact h1_1 | exact h73_2 | exact h86_2 | exact h107_2 | exact h115_2) (by first | exact h1_2 | exact h73_3 | exact h86_3 | exact h107_3 | exact h115_3) (by first | exact h73_4 | exact h86_4 | exact h107_4 | exact h115_4 | exact hBR) (by first | exact h73_5 | exact h86_5 | exact h107_5 | exact h115_5 | omega) (by first | exact h73_6 | exact h115_6 | omega) (by first | exact h73_7 | exact hE9 | exact hEo) (Nat.lt_succ_self _)
