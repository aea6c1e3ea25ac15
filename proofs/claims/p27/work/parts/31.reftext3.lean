def fF_X7_readItem (T : Nat → Int32) (F : Nat → Int32) : Nat → Int32 :=
  let F1 := fF_X7_takes T F 45
  let x2 := fR_X7_takes T F 45
  let F3 := fF_X7_readNumber T F1 3 0 300
  if fR_X7_readNumber T F1 3 0 300 = 0 then
    F3
  else
    if x2 = 0 then
      let x4 := F3 8
      let F5 := upd F3 9 x4
      let F6 := fF_X7_takes T F5 44
      if fR_X7_takes T F5 44 = 0 then
        F6
      else
        let F7 := fF_X7_readNumber T F6 3 0 100
        if fR_X7_readNumber T F6 3 0 100 = 0 then
          F7
        else
          let x8 := F7 8
          let F9 := upd F7 10 x8
          let F10 := upd F9 11 1
          let F11 := fF_X7_takes T F10 120
          if fR_X7_takes T F10 120 = 0 then
            let F12 := fF_X7_takes T F11 59
            F12
          else
            let F13 := fF_X7_readNumber T F11 2 1 99
            if fR_X7_readNumber T F11 2 1 99 = 0 then
              F13
            else
              let x14 := F13 8
              let F15 := upd F13 11 x14
              let F16 := fF_X7_takes T F15 59
              F16
    else
      let x17 := -(F3 8)
      let F18 := upd F3 9 x17
      let F19 := fF_X7_takes T F18 44
      if fR_X7_takes T F18 44 = 0 then
        F19
      else
        let F20 := fF_X7_readNumber T F19 3 0 100
        if fR_X7_readNumber T F19 3 0 100 = 0 then
          F20
        else
          let x21 := F20 8
          let F22 := upd F20 10 x21
          let F23 := upd F22 11 1
          let F24 := fF_X7_takes T F23 120
          if fR_X7_takes T F23 120 = 0 then
            let F25 := fF_X7_takes T F24 59
            F25
          else
            let F26 := fF_X7_readNumber T F24 2 1 99
            if fR_X7_readNumber T F24 2 1 99 = 0 then
              F26
            else
              let x27 := F26 8
              let F28 := upd F26 11 x27
              let F29 := fF_X7_takes T F28 59
              F29
def fR_X7_readItem (T : Nat → Int32) (F : Nat → Int32) : Int32 :=
  let F1 := fF_X7_takes T F 45
  let x2 := fR_X7_takes T F 45
  let F3 := fF_X7_readNumber T F1 3 0 300
  if fR_X7_readNumber T F1 3 0 300 = 0 then
    0
  else
    if x2 = 0 then
      let x4 := F3 8
      let F5 := upd F3 9 x4
      let F6 := fF_X7_takes T F5 44
      if fR_X7_takes T F5 44 = 0 then
        0
      else
        let F7 := fF_X7_readNumber T F6 3 0 100
        if fR_X7_readNumber T F6 3 0 100 = 0 then
          0
        else
          let x8 := F7 8
          let F9 := upd F7 10 x8
          let F10 := upd F9 11 1
          let F11 := fF_X7_takes T F10 120
          if fR_X7_takes T F10 120 = 0 then
            fR_X7_takes T F11 59
          else
            let F13 := fF_X7_readNumber T F11 2 1 99
            if fR_X7_readNumber T F11 2 1 99 = 0 then
              0
            else
              let x14 := F13 8
              let F15 := upd F13 11 x14
              fR_X7_takes T F15 59
    else
      let x17 := -(F3 8)
      let F18 := upd F3 9 x17
      let F19 := fF_X7_takes T F18 44
      if fR_X7_takes T F18 44 = 0 then
        0
      else
        let F20 := fF_X7_readNumber T F19 3 0 100
        if fR_X7_readNumber T F19 3 0 100 = 0 then
          0
        else
          let x21 := F20 8
          let F22 := upd F20 10 x21
          let F23 := upd F22 11 1
          let F24 := fF_X7_takes T F23 120
          if fR_X7_takes T F23 120 = 0 then
            fR_X7_takes T F24 59
          else
            let F26 := fF_X7_readNumber T F24 2 1 99
            if fR_X7_readNumber T F24 2 1 99 = 0 then
              0
            else
              let x27 := F26 8
              let F28 := upd F26 11 x27
              fR_X7_takes T F28 59
