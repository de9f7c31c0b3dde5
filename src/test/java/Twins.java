import java.util.function.Supplier;

/** Two objects with the same calls behind them: what a refused call, or a question, must not change. */
final class Twins {
    interface Call {
        long on(BurntEnds x);
    }

    private Twins() {
    }

    /** The call answers so, and nothing can be told apart behind it. */
    static void refused(String what, Supplier<BurntEnds> maker, Call call, long want) {
        refused(what, maker, call, want, x -> 0);
    }

    /** With a call behind it on both, for what may differ. */
    static void refused(String what, Supplier<BurntEnds> maker, Call call, long want, Call onBoth) {
        BurntEnds x = maker.get();
        BurntEnds other = maker.get();
        Check.due(what, call.on(x), want);
        onBoth.on(x);
        onBoth.on(other);
        String got = all(x);
        String due = all(other);
        Check.due(what + " changes something: " + got + " in place of " + due, got.equals(due), true);
    }

    /** A question: it changes nothing, whatever it answers, and answers the same again. */
    static void asks(String what, Supplier<BurntEnds> maker, Call call) {
        BurntEnds x = maker.get();
        long first = call.on(x);
        Check.due(what + " asked again", call.on(x), first);
        refused(what, maker, call, first);
    }

    /** Something of everything: LIT, burnt, kept, to undo, SEEN, KNOWN by some, a TAPE and a FAULT. */
    static BurntEnds busy() {
        BurntEnds x = Check.told("man a 30;man b 20;man c 3;june a 2;june b 3;light a 0 0;light b 1 2;light c 0 1;"
            + "blow b 1 6;lend a c;draft 40;seed 7;law burn windy+lit;law glow left;");
        x.go(3);
        x.keep();
        x.go(1);
        x.light(0, 1);
        x.cut(1, 0, 2);
        x.blow(0, 0);
        x.see(1, 0, 5, true);
        x.see(2, 1, 25, false);
        x.strike(0);
        x.known(2);
        Check.text(x, "man a 1;;");
        Check.feed(x, "man z 5;june z 4;");
        return x;
    }

    /** All that can be told of an object, by some 400 calls: now, undone, by IMAGE, on, by the TAPE. */
    static String all(BurntEnds x) {
        StringBuilder all = new StringBuilder();
        all.append(x.fault(0)).append(' ').append(x.fault(1)).append(' ');
        putState(x, all);
        all.append("undo ");
        for (int left = x.undo(); left >= 0; left = x.undo()) {
            all.append(left).append(": ");
            for (int man = 0; man < x.count(0); man++) {
                all.append(Check.man(x, man, 2)).append(' ').append(Check.man(x, man, 3)).append(' ')
                    .append(Check.man(x, man, 4)).append(' ');
            }
        }
        all.append("go ").append(x.go(3)).append(' ');
        putState(x, all);
        all.append("back ").append(x.back()).append(' ');
        putState(x, all);
        all.append("go ").append(x.go(5)).append(' ');
        putState(x, all);
        int taped = x.feed(0x6d616e20, 0x79203b3b, 0, 0, 0);
        all.append("tape ").append(taped).append(' ').append(x.text(taped)).append(' ').append(x.fault(0)).append(' ')
            .append(x.fault(1)).append(' ');
        return all.toString();
    }

    private static void putState(BurntEnds x, StringBuilder all) {
        for (int what = 0; what <= 14; what++) {
            all.append(x.count(what)).append(' ');
        }
        for (int man = 0; man < x.count(0); man++) {
            for (int what = 0; what <= 7; what++) {
                all.append(Check.man(x, man, what)).append(' ');
            }
            all.append(x.lenders(man)).append(' ').append(x.lengths(man)).append(' ').append(x.recall(man)).append(' ');
        }
    }
}
