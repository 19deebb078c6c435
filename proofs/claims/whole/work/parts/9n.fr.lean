/-! ===== a contract over a part of the cells is one over all of them, in one piece ===== -/
theorem Met.cons {l : Launch} {y : MethodName} {ws : List Cond} {rm : Room} {Pc Pc' : Array Value → State → Prop} {Qc Qc' : Array Value → State → Outcome → State → Prop} {mc ms : Nat} {fr fr' : Addr → Prop} (h : Met l y ws rm Pc Qc mc ms fr) (h1 : ∀ a s, Pc' a s → Pc a s) (h2 : ∀ a s o t, Pc' a s → Qc a s o t → Qc' a s o t) (h3 : ∀ q, fr q → fr' q) : Met l y ws rm Pc' Qc' mc ms fr' := by
  intro p e ha hc hk s m args below hf happ hP hK
  obtain ⟨n, o, s1, s2, s3, hq, L, hF, hL⟩ := h p e ha hc hk s m args below hf happ (h1 _ _ hP) hK
  exact ⟨n, o, s1, s2, s3, h2 _ _ _ _ hP hq, L, hF, fun q hq => h3 _ (hL q hq)⟩
theorem fl1 (w : va_W) : ([w] : List va_W).flatten = w := by simp
theorem Ct.fr {g : Gm} {d mc ms : Nat} {y : MethodName} {cc : ByteArray} {nL : Nat} {ret : Option FieldType} {av : List Value} {fc : List va_W} {Post Post' : Option Value → List va_W → Prop} (h : Ct g d mc ms y cc nL ret av fc Post) (fs fr : List va_W) (isC isR : List Nat)
    (hC : isC.map (fun i => fs[i]?) = fc.map some) (hR : isR.map (fun i => fs[i]?) = fr.map some) (hnC : va_nd isC = true) (hn : va_nd isR = true) (hdis : ∀ i ∈ isR, i ∉ isC) (hp : ∀ v w, Post v w → Post' v [(w ++ fr).flatten]) : Ct g d mc ms y cc nL ret av [fs.flatten] Post' := by
  intro l sz
  have hsub : ∀ q, va_A fc.flatten sz q → va_A fs.flatten sz q := fun q z => by
    rcases z with ⟨b, e, z⟩ | z
    · obtain ⟨f, hf, hz⟩ := List.mem_flatten.mp (List.mem_of_getElem? z)
      obtain ⟨i, hi⟩ := List.getElem?_of_mem (List.mem_flatten.mpr ⟨f, pk_mem hC hf, hz⟩)
      exact Or.inl ⟨i, e, hi⟩
    · exact Or.inr z
  have key := (h l sz).cons (Pc' := PcOf g av [fs.flatten] sz) (Qc' := QcOf g (va_A ([fs.flatten] : List va_W).flatten sz) Post') (fr' := va_A ([fs.flatten] : List va_W).flatten sz) ?_ ?_ (fun q z => by rw [fl1]; exact hsub q z)
  · exact key
  · intro a s hP
    obtain ⟨e, hsz, hP, hK, hD, hS⟩ := hP
    rw [fl1] at hP hD hS
    exact ⟨e, hsz, pk_P hC hP, hK, pk_D hC hnC hD, hS.narrow hsub⟩
  · intro a s o t hP hQ
    obtain ⟨e, hsz, hP, hK, hD, hS⟩ := hP
    obtain ⟨⟨v, w1, ho, hpo, hP1, hK1, hD1⟩, hF⟩ := hQ
    rw [fl1] at hP hD
    subst hsz
    have hD2 := hD.self (sz := s.heap.size)
    obtain ⟨j1, j2⟩ := pk_join hP hD2 hC hR hn hdis hF.2 hsub hP1 hD1
    refine ⟨⟨v, [(w1 ++ fr).flatten], ho, hp v w1 hpo, by rw [fl1]; exact j1, hK1, by rw [fl1, fl1]; exact j2⟩, hF.1, fun q a1 a2 => hF.2 q a1 (fun z => a2 (by rw [fl1]; exact hsub q z))⟩
theorem Ct.post {g : Gm} {d mc ms : Nat} {y : MethodName} {cc : ByteArray} {nL : Nat} {ret : Option FieldType} {av : List Value} {w : List va_W} {Post Post' : Option Value → List va_W → Prop} (h : Ct g d mc ms y cc nL ret av w Post) (hp : ∀ v w, Post v w → Post' v w) : Ct g d mc ms y cc nL ret av w Post' := by
  intro l sz
  refine (h l sz).cons (fun _ _ z => z) (fun a s o t _ hQ => ?_) (fun _ z => z)
  obtain ⟨⟨v, w1, ho, hpo, q⟩, hF⟩ := hQ
  exact ⟨⟨v, w1, ho, hp v w1 hpo, q⟩, hF⟩
/-- more frames may be asked than are needed -/
theorem Ct.deep {g : Gm} {d d2 mc ms : Nat} {y : MethodName} {cc : ByteArray} {nL : Nat} {ret : Option FieldType} {av : List Value} {w : List va_W} {Post : Option Value → List va_W → Prop} (h : Ct g d mc ms y cc nL ret av w Post) (hd : d = d2) : Ct g d2 mc ms y cc nL ret av w Post := by
  subst hd
  exact h
