/-! the same rules where the object itself stands first and its parts behind it -/
theorem ap_hv {u v : List va_E} {k n w : Nat} {z : va_E} (hk : (ap u v).length + 1 = n) (hv : v.length = w) (e : k + w + 1 = n) (h0 : v[0]? = some z) : (ap u v)[k]? = some z := by
  have h1 : (u ++ v).length + 1 = n := hk
  rw [List.length_append] at h1
  show (u ++ v)[k]? = some z
  rw [List.getElem?_append_right (by omega), show k - u.length = 0 by omega]
  exact h0
theorem ap_he {u v : List va_E} {i n w : Nat} {z : va_E} (hk : (ap u v).length + 1 = n) (hv : v.length = w) (hi : i + w + 1 < n) (h : u[i]? = some z) : (ap u v)[i]? = some z := by
  have h1 : (u ++ v).length + 1 = n := hk
  rw [List.length_append] at h1
  show (u ++ v)[i]? = some z
  rw [List.getElem?_append_left (by omega)]
  exact h
theorem set_he {u : List va_E} {i : Nat} {z : va_E} (h : i < u.length) : (u.set i z)[i]? = some z := List.getElem?_set_self h
section CR2
variable {g : xG} {B : Nat} {y : xM} {mc ms : Nat} {es' : List va_E} {Z : xZ} {cells slots pc pc' : Nat} {L : List (Nat × Value)} {S : List Value} {x : va_E} {es0 t : List va_E}
theorem c_new1 {idx ci k : Nat} {own : String} {fs : List Value} (hd : xd y.2.1 pc (.new idx) 3 pc') (ho : y.1.cls = own) (hn : CN own idx ci fs) (hc : cells + 1 ≤ mc) (hsl : slots + fs.length ≤ ms) (hk : t.length + 1 = k) {c2 s2 k2 : Nat} (ek : k + 1 = k2) (ec : cells + 1 = c2) (eS : slots + fs.length = s2) (kk : (ap t [.inr (ci, fs)]).length + 1 = k2 → Cx g B y mc ms es' Z c2 s2 pc' L (.ref (B + (es0.length + k)) :: S) (es0 ++ (x :: (ap t [.inr (ci, fs)])))) : Cx g B y mc ms es' Z cells slots pc L S (es0 ++ (x :: t))  := by
  subst ec eS
  exact
  c_new (X := x :: t) hd ho hn hc hsl hk rfl (kk (by rw [List.length_append, ← ek, ← hk]; rfl))
theorem c_newa1 {atype : ArrayType} {ti N k : Nat} {v : Int32} (hd : xd y.2.1 pc (.newarray atype) 2 pc') (hw : Cond.arrayClass (newarray.typeOf atype) ∈ gw) (ht : ∀ s : State, xK g s → s.vm.findClass ("[" ++ (newarray.typeOf atype).toString) = some (g.2.2.2 ti)) (hdef : defaultValue (newarray.typeOf atype) = .int 0) (hcb : componentBytes (newarray.typeOf atype) ≤ 4) (hv : ¬ v < 0) (hN : v.toNatClampNeg = N) (hb : N ≤ 100000) (hc : cells + 1 ≤ mc) (hsl : slots + N ≤ ms) (hk : t.length + 1 = k) {c2 s2 k2 : Nat} (ek : k + 1 = k2) (ec : cells + 1 = c2) (eS : slots + N = s2) (kk : (ap t [.inl (g.2.2.2 ti, N, .inl (fun _ => 0))]).length + 1 = k2 → Cx g B y mc ms es' Z c2 s2 pc' L (.ref (B + (es0.length + k)) :: S) (es0 ++ (x :: (ap t [.inl (g.2.2.2 ti, N, .inl (fun _ => 0))])))) : Cx g B y mc ms es' Z cells slots pc L (.int v :: S) (es0 ++ (x :: t))  := by
  subst ec eS
  exact
  c_newa (X := x :: t) hd hw ht hdef hcb hv hN hb hc hsl hk rfl (kk (by rw [List.length_append, ← ek, ← hk]; rfl))
theorem c_anew1 {idx ti N k : Nat} {v : Int32} {own C : String} (hd : xd y.2.1 pc (.anewarray idx) 3 pc') (ho : y.1.cls = own) (hw : Cond.classLink own idx C ∈ gw) (hao : ∀ s : State, aO s → va_AO C s) (ht : ∀ s : State, xK g s → s.vm.findClass ("[" ++ (FieldType.object C).toString) = some (g.2.2.2 ti)) (hv : ¬ v < 0) (hN : v.toNatClampNeg = N) (hb : N ≤ 100000) (hc : cells + 1 ≤ mc) (hsl : slots + N ≤ ms) (hk : t.length + 1 = k) {c2 s2 k2 : Nat} (ek : k + 1 = k2) (ec : cells + 1 = c2) (eS : slots + N = s2) (kk : (ap t [.inl (g.2.2.2 ti, N, .inr (.inr (.inr (.inr (fun _ => none)))))]).length + 1 = k2 → Cx g B y mc ms es' Z c2 s2 pc' L (.ref (B + (es0.length + k)) :: S) (es0 ++ (x :: (ap t [.inl (g.2.2.2 ti, N, .inr (.inr (.inr (.inr (fun _ => none)))))])))) : Cx g B y mc ms es' Z cells slots pc L (.int v :: S) (es0 ++ (x :: t))  := by
  subst ec eS
  exact
  c_anew (X := x :: t) hd ho hw hao ht hv hN hb hc hsl hk rfl (kk (by rw [List.length_append, ← ek, ← hk]; rfl))
theorem c_put1 {idx ci j : Nat} {own : String} {v : Value} {fs fs' : List Value} (hd : xd y.2.1 pc (.putfield idx) 3 pc') (ho : y.1.cls = own) (fl : FL own idx ci j false) (ty : FieldType) (hf : ∀ (C : String) (T : u_T) (N : Nat), classes[ci]? = some (C, T, N) → parseFieldDescriptor (T j).2.2.1 = some ty ∧ ((T j).2.2.2 = true → C = own ∧ y.1.name = "<init>")) (hnv : narrow ty v = v) (hfit : fits ty v = true) (hj : j < fs.length) (hfs : fs.set j v = fs') (kk : Cx g B y mc ms es' Z cells slots pc' L S (es0 ++ (.inr (ci, fs') :: t))) : Cx g B y mc ms es' Z cells slots pc L (v :: .ref (B + (es0.length + 0)) :: S) (es0 ++ (.inr (ci, fs) :: t)) :=
  c_put (i := 0) (X := .inr (ci, fs) :: t) hd ho fl rfl ty hf hnv hfit hj (by rw [hfs]; rfl) kk
theorem c_get1 {idx ci j : Nat} {own : String} {v : Value} {fs : List Value} (hd : xd y.2.1 pc (.getfield idx) 3 pc') (ho : y.1.cls = own) (fl : FL own idx ci j false) (hv : fs[j]? = some v) (kk : Cx g B y mc ms es' Z cells slots pc' L (v :: S) (es0 ++ (.inr (ci, fs) :: t))) : Cx g B y mc ms es' Z cells slots pc L (.ref (B + (es0.length + 0)) :: S) (es0 ++ (.inr (ci, fs) :: t)) :=
  c_get (i := 0) (X := .inr (ci, fs) :: t) hd ho fl rfl hv kk
theorem c_aast1 {i k ti ci N : Nat} {v : Int32} {r : vw_C} {vs : List Value} {f : Nat → Option Nat} (hd : xd y.2.1 pc .aastore 1 pc') (he : t[i]? = some (.inl (g.2.2.2 ti, N, .inr (.inr (.inr (.inr f)))))) (t0 : Nat) (ht : (xTys g)[t0]? = some (g.2.2.2 ti, .object r.1)) (hc : classes[ci]? = some r) (hv : t[k]? = some (.inr (ci, vs))) (hin : vp_in v N) {k2 : Nat} (hk : t.length + 1 = k2) (kk : (t.set i (.inl (g.2.2.2 ti, N, .inr (.inr (.inr (.inr (va_up f v.toNatClampNeg (some (B + (es0.length + (k + 1))))))))))).length + 1 = k2 → Cx g B y mc ms es' Z cells slots pc' L S (es0 ++ (x :: t.set i (.inl (g.2.2.2 ti, N, .inr (.inr (.inr (.inr (va_up f v.toNatClampNeg (some (B + (es0.length + (k + 1))))))))))))  ) : Cx g B y mc ms es' Z cells slots pc L (.ref (B + (es0.length + (k + 1))) :: .int v :: .ref (B + (es0.length + (i + 1))) :: S) (es0 ++ (x :: t)) :=
  c_aast (i := i + 1) (k := k + 1) (X := x :: t) hd he t0 ht hc hv hin rfl rfl (kk (by rw [List.length_set]; exact hk))
theorem c_iast1 {i N : Nat} {v z : Int32} {f : Nat → Int32} (hd : xd y.2.1 pc .iastore 1 pc') (he : t[i]? = some (.inl (g.2.2.2 20, N, .inl f))) (hin : vp_in v N) (kk : Cx g B y mc ms es' Z cells slots pc' L S (es0 ++ (x :: t.set i (.inl (g.2.2.2 20, N, .inl (upd f v.toNatClampNeg z)))))) : Cx g B y mc ms es' Z cells slots pc L (.int z :: .int v :: .ref (B + (es0.length + (i + 1))) :: S) (es0 ++ (x :: t)) :=
  c_iast (i := i + 1) (X := x :: t) hd he hin rfl rfl kk
theorem c_init1 {idx n mc2 ms2 k : Nat} {own : String} {yc : xM} {As S0 : List Value} {d0 : va_E} {F2 : Nat → List va_E} (hd : xd y.2.1 pc (.invokespecial idx) 3 pc') (ho : y.1.cls = own) (hc : CC own idx yc n) (hdep : yc.2.2.2.2 + 1 ≤ y.2.2.2.2) (hn : As.length = n) (hk : (ap t [d0]).length + 1 = k + 1) (hst : S0 = As.reverse ++ .ref (B + (es0.length + k)) :: S) (h8 : (S.map (fun v => v.category)).sum ≤ 8) (hcl : cells + mc2 ≤ mc) (hsl : slots + ms2 ≤ ms)
    (hM : ∀ es : List va_E, Mc g B yc (.ref (B + es.length) :: As) (es ++ [d0]) (es ++ F2 es.length) mc2 ms2) (hF2 : ∀ i, (F2 i).length = mc2 + 1) {c2 s2 k2 : Nat} (ek : k + mc2 + 1 = k2) (ec : cells + mc2 = c2) (eS : slots + ms2 = s2) (kk : (t ++ F2 (es0.length + k)).length + 1 = k2 → Cx g B y mc ms es' Z c2 s2 pc' L S (es0 ++ (x :: (t ++ F2 (es0.length + k))))) : Cx g B y mc ms es' Z cells slots pc L S0 (es0 ++ (x :: (ap t [d0])))  := by
  subst ec eS
  have hk1 : t.length + 1 = k := by
    rw [List.length_append] at hk
    simp only [List.length_cons, List.length_nil] at hk
    omega
  exact
  c_init (X := x :: t) (X1 := x :: (ap t [d0])) hd ho hc hdep hn rfl hk1 rfl hst h8 hcl hsl hM hF2 rfl (kk (by rw [List.length_append, hF2]; omega))
theorem c_vcall1 {idx : Nat} {fs : List Value} (hd : xd y.2.1 pc (.invokevirtual idx) 3 pc') (ho : y.1.cls = "ShakenBread") (hl : Cond.methodLink "ShakenBread" idx y_Sb_forgetWorlds.1 ∈ gw) (hdep : 1 ≤ y.2.2.2.2) (hcl : cells ≤ mc) (hsl : slots ≤ ms) (hlen : 10 < fs.length) (kk : Cx g B y mc ms es' Z cells slots pc' L [] (es0 ++ (.inr (9, (fs.set 9 (.int (-1))).set 10 (.int (-1))) :: t))) : Cx g B y mc ms es' Z cells slots pc L [.ref (B + (es0.length + 0))] (es0 ++ (.inr (9, fs) :: t)) :=
  c_vcall (k := 0) (X := .inr (9, fs) :: t) (T := TX9) (N := 11) (ci := 9) (As := []) (own := "ShakenBread") hd ho c_Sb_forgetWorlds hl rfl rfl rfl hdep rfl rfl rfl (Nat.zero_le _) hcl hsl (k_fw rfl hlen rfl) rfl kk
end CR2
