set_option maxRecDepth 100000 in
theorem xmok_0 : ((xms.drop 0).take 20).all xmok = true := by decide +kernel
set_option maxRecDepth 100000 in
theorem xmok_1 : ((xms.drop 20).take 20).all xmok = true := by decide +kernel
set_option maxRecDepth 100000 in
theorem xmok_2 : ((xms.drop 40).take 20).all xmok = true := by decide +kernel
set_option maxRecDepth 100000 in
theorem xmok_3 : ((xms.drop 60).take 20).all xmok = true := by decide +kernel
set_option maxRecDepth 100000 in
theorem xmok_4 : ((xms.drop 80).take 20).all xmok = true := by decide +kernel
set_option maxRecDepth 100000 in
theorem xmok_5 : ((xms.drop 100).take 20).all xmok = true := by decide +kernel
set_option maxRecDepth 100000 in
theorem xmok_6 : ((xms.drop 120).take 20).all xmok = true := by decide +kernel
set_option maxRecDepth 100000 in
theorem xmok_7 : ((xms.drop 140).take 20).all xmok = true := by decide +kernel
set_option maxRecDepth 100000 in
theorem xmok_8 : ((xms.drop 160).take 20).all xmok = true := by decide +kernel
set_option maxRecDepth 100000 in
theorem xmok_9 : ((xms.drop 180).take 20).all xmok = true := by decide +kernel
set_option maxRecDepth 100000 in
theorem xmok_10 : ((xms.drop 200).take 20).all xmok = true := by decide +kernel
set_option maxRecDepth 100000 in
theorem xmok_11 : ((xms.drop 220).take 20).all xmok = true := by decide +kernel
def xokL : List xM → List xT → Prop
  | q :: qs, t :: ts => xokT q.1.cls q.2.1 q.2.2.2.1 q.1.name t = true ∧ xokL qs ts
  | _, _ => True
theorem x_okL : ∀ (qs : List xM) (ts : List xT), xokL qs ts → ∀ (m : Nat) (q : xM) (t : xT), qs[m]? = some q → ts[m]? = some t → xokT q.1.cls q.2.1 q.2.2.2.1 q.1.name t = true
  | [], _, _, m, q, t, h, _ => by simp at h
  | _ :: _, [], _, m, q, t, _, h => by simp at h
  | q0 :: qs, t0 :: ts, hk, m, q, t, h1, h2 => by
    cases m with
    | zero => cases h1; cases h2; exact hk.1
    | succ m => exact x_okL qs ts hk.2 m q t h1 h2
set_option maxRecDepth 100000 in
theorem xok_all : xokL xms xtabs := ⟨xok0, xok1, xok2, xok3, xok4, xok5, xok6, xok7, xok8, xok9, xok10, xok11, xok12, xok13, xok14, xok15, xok16, xok17, xok18, xok19, xok20, xok21, xok22, xok23, xok24, xok25, xok26, xok27, xok28, xok29, xok30, xok31, xok32, xok33, xok34, xok35, xok36, xok37, xok38, xok39, xok40, xok41, xok42, xok43, xok44, xok45, xok46, xok47, xok48, xok49, xok50, xok51, xok52, xok53, xok54, xok55, xok56, xok57, xok58, xok59, xok60, xok61, xok62, xok63, xok64, xok65, xok66, xok67, xok68, xok69, xok70, xok71, xok72, xok73, xok74, xok75, xok76, xok77, xok78, xok79, xok80, xok81, xok82, xok83, xok84, xok85, xok86, xok87, xok88, xok89, xok90, xok91, xok92, xok93, xok94, xok95, xok96, xok97, xok98, xok99, xok100, xok101, xok102, xok103, xok104, xok105, xok106, xok107, xok108, xok109, xok110, xok111, xok112, xok113, xok114, xok115, xok116, xok117, xok118, xok119, xok120, xok121, xok122, xok123, xok124, xok125, xok126, xok127, xok128, xok129, xok130, xok131, xok132, xok133, xok134, xok135, xok136, xok137, xok138, xok139, xok140, xok141, xok142, xok143, xok144, xok145, xok146, xok147, xok148, xok149, xok150, xok151, xok152, xok153, xok154, xok155, xok156, xok157, xok158, xok159, xok160, xok161, xok162, xok163, xok164, xok165, xok166, xok167, xok168, xok169, xok170, xok171, xok172, xok173, xok174, xok175, xok176, xok177, xok178, xok179, xok180, xok181, xok182, xok183, xok184, xok185, xok186, xok187, xok188, xok189, xok190, xok191, xok192, xok193, xok194, xok195, xok196, xok197, xok198, xok199, xok200, xok201, xok202, xok203, xok204, xok205, xok206, xok207, xok208, xok209, xok210, xok211, xok212, xok213, xok214, xok215, xok216, xok217, xok218, xok219, xok220, xok221, xok222, xok223, xok224, xok225, xok226, xok227, xok228, xok229, xok230, xok231, xok232, xok233, xok234, xok235, xok236, xok237, xok238, xok239, xok240, trivial⟩
