/** The sentences about the text that name a boundary case: "Text" of the terms, and promises 36 to 39. */
public final class TextEdgesTest {
    /** What may stand behind a beginning of moves. */
    private static final String[][] FOLLOWERS = {
        {"", "tsm"}, {"t", "0123456789"}, {"t0", "-"}, {"t1", "01-"}, {"t2", "-"}, {"t9", "-"}, {"t10", "-"},
        {"t11", "-"}, {"t0-", "12345"}, {"t10-", "12345"}, {"t0-1", ","}, {"t11-5", ","},
        {"s", "0123456789"}, {"s0", "/"}, {"s1", "01/"}, {"s2", "/"}, {"s9", "/"}, {"s10", "/"}, {"s11", "/"},
        {"s0/", "123456"}, {"s11/", "123456"}, {"s0/1", ","}, {"s10/6", ","},
        {"m", "0123456789"}, {"m0", "+"}, {"m1", "01+"}, {"m2", "+"}, {"m9", "+"}, {"m10", "+"}, {"m11", "+"},
        {"m0+", "0123456789"}, {"m11+", "0123456789"}, {"m0+0", ","}, {"m0+1", "01,"}, {"m0+2", ","}, {"m0+9", ","},
        {"m0+10", ","}, {"m0+11", ","}, {"m11+11", ","}};
    /** 55 characters, so that there is room for 5 more. */
    private static final String ELEVEN = "t0-1,".repeat(11);

    private static final Edges edges = new Edges();

    public static void main(String[] args) {
        length();
        items();
        heapNumbers();
        promise36();
        promise37();
        promise38();
        promise39();
        edges.end();
    }

    private static CairnGame text(String text) {
        return Games.withText(new CairnGame(), text);
    }

    private static void error(String text, int due) {
        edges.same("the first error of " + text, text(text).firstError(), due);
    }

    private static void tells(String text) {
        error(text, CairnGame.NONE);
    }

    /** The text's last character is the first error. */
    private static void wrongAtEnd(String text) {
        error(text, text.length() - 1);
    }

    // ---- terms

    private static void length() {
        edges.sentence("Text", "There is a text of at most 60 characters, empty at first.", () -> {
            edges.same("at first", new CairnGame().clearText(), 0);
            edges.same("the first character", new CairnGame().append('t'), 1);
            edges.same("the sixtieth character", text("x".repeat(59)).append('x'), 60);
            edges.refusesAsIs("the next one", Edges.STATE, () -> text("x".repeat(60)), g -> g.append('x'));
        });
    }

    private static void items() {
        edges.sentence("Text", "Moves are written as one or more items separated by \",\"", () -> {
            error("", 0);
            tells("t0-1");
            tells("t0-1,s0/1");
            tells(ELEVEN + "t0-1");
            wrongAtEnd(",");
            wrongAtEnd("t0-1,,");
            wrongAtEnd("t0-1;");
            wrongAtEnd("t0-1t");
            error("t0-1,", 5);
            error("s0/1,m0+1,", 10);
        });
        edges.sentence("Text", "\"t\", a heap, \"-\", and a number of stones from 1 to 5", () -> {
            wrongAtEnd("t0-0");
            for (int stones = 1; stones <= 5; stones++) {
                tells("t0-" + stones);
                tells("s0/1,t11-" + stones + ",m0+1");
            }
            wrongAtEnd("t0-6");
            wrongAtEnd("t0-9");
            wrongAtEnd("t0-10");
            wrongAtEnd("t0--");
            wrongAtEnd("T");
        });
        edges.sentence("Text", "\"s\", a heap, \"/\", and a first part from 1 to 6", () -> {
            wrongAtEnd("s0/0");
            for (int first = 1; first <= 6; first++) {
                tells("s0/" + first);
                tells("t0-1,s11/" + first + ",m0+1");
            }
            wrongAtEnd("s0/7");
            wrongAtEnd("s0/9");
            wrongAtEnd("s0/10");
            wrongAtEnd("s0-");
            wrongAtEnd("S");
        });
        edges.sentence("Text", "\"m\", a heap, \"+\", and a heap", () -> {
            for (int other = 0; other <= 11; other++) {
                tells("m0+" + other);
                tells("m" + other + "+11");
                tells("t0-1,m" + other + "+" + other + ",s0/1");
            }
            wrongAtEnd("m0+12");
            wrongAtEnd("m0/");
            wrongAtEnd("M");
        });
    }

    private static void heapNumbers() {
        edges.sentence("Text", "Heaps are numbers from 0 to 11 without leading zeros.", () -> {
            for (int heap = 0; heap <= 11; heap++) {
                tells("t" + heap + "-1");
                tells("s" + heap + "/1");
                tells("m" + heap + "+0");
                tells("m0+" + heap);
            }
            String[] wrong = {"12", "13", "19", "20", "21", "90", "99", "00", "01", "100", "110", "111", "-", "+", "a"};
            for (String heap : wrong) {
                wrongAtEnd("t" + heap);
                wrongAtEnd("s" + heap);
                wrongAtEnd("m0+" + heap);
                wrongAtEnd("t0-1,m10+" + heap);
            }
            for (int heap = 0; heap <= 11; heap++) {
                reaches(heap);
            }
            // here "-" and "+" belong behind the heap, but not in front of it
            wrongAtEnd("m-");
            wrongAtEnd("m12");
            wrongAtEnd("m00");
            wrongAtEnd("m+");
        });
    }

    /** The moves of the text are made with the very heap of this number. */
    private static void reaches(int heap) {
        String take = "t" + heap + "-1";
        makes(Games.ones(heap + 1), take, 1);
        makes(Games.ones(heap), take, 0);
        for (int place = 0; place < 11; place++) {
            int due = place == heap ? 1 : 0;
            makes(Games.onesWithATwo(place), "t" + heap + "-2", due);
            makes(Games.onesWithATwo(place), "s" + heap + "/1", due);
        }
        if (heap > 0) {
            makes(Games.mergingOnes(heap + 1), "m" + heap + "+0", 1);
            makes(Games.mergingOnes(heap + 1), "m0+" + heap, 1);
            makes(Games.mergingOnes(heap), "m0+" + heap, 0);
        }
    }

    private static void makes(CairnGame game, String text, int due) {
        int heaps = game.heaps();
        edges.same("moves made by " + text + " on " + heaps + " heaps", Games.withText(game, text).play(), due);
    }

    // ---- append and clearText

    private static void promise36() {
        edges.sentence("36", "code: the code of the character, 33 to 126", () -> {
            for (int code = 33; code <= 126; code++) {
                edges.same("code " + code, new CairnGame().append(code), 1);
            }
        });
        edges.sentence("36", "Throws IllegalArgumentException if code is out of range", () -> {
            int[] codes = {32, 127, 0, -1, 128, 255, 256 + 't', 65536 + 't', Integer.MIN_VALUE, Integer.MAX_VALUE};
            for (int wrong : codes) {
                edges.refuses("code " + wrong, Edges.ARGUMENT, () -> Games.of(3), g -> g.append(wrong));
                edges.refusesAsIs("code " + wrong + ", all room used", Edges.ARGUMENT, () -> text("x".repeat(60)),
                        g -> g.append(wrong));
            }
        });
        edges.sentence("36", "Throws IllegalStateException if the text has 60 characters", () -> {
            String whole = "m10+11," + "t10-1,".repeat(3) + "t0-1,".repeat(7);
            edges.same("characters", whole.length(), 60);
            edges.refusesAsIs("behind moves that go on", Edges.STATE, () -> text(whole), g -> g.append('t'));
            edges.refusesAsIs("behind moves that are whole", Edges.STATE, () -> sixty(), g -> g.append(','));
            CairnGame game = text("x".repeat(60));
            game.clearText();
            edges.same("room again", game.append('x'), 1);
            CairnGame played = sixty();
            played.play();
            edges.same("room again after play()", Games.withText(played, "x".repeat(59)).append('x'), 60);
        });
        edges.sentence("36", "Returns the length of the text then.", () -> {
            CairnGame game = new CairnGame();
            for (int length = 1; length <= 60; length++) {
                edges.same("length", game.append('t'), length);
            }
        });
    }

    /** Twelve heaps, and a text of 60 characters that tells the moves that take them all. */
    private static CairnGame sixty() {
        return Games.withText(Games.mergingOnes(12), "t10-1," + ELEVEN.substring(0, 54));
    }

    private static void promise37() {
        edges.sentence("37", "Returns the length that it had.", () -> {
            edges.same("empty", new CairnGame().clearText(), 0);
            edges.same("1", text("x").clearText(), 1);
            edges.same("59", text("x".repeat(59)).clearText(), 59);
            edges.same("60", text("x".repeat(60)).clearText(), 60);
        });
        edges.sentence("37", "Empties the text.", () -> {
            CairnGame game = text("t0-1x");
            game.clearText();
            edges.same("empty again", game.clearText(), 0);
            edges.same("nothing is left of it", game.firstError(), 0);
            edges.same("a new one begins", Games.withText(game, "s1/1").firstError(), CairnGame.NONE);
        });
    }

    // ---- firstError

    private static void promise38() {
        edges.sentence("38",
                "Returns the index of the first character that is not allowed at its place (no moves begin with "
                + "the characters up to and including it)", () -> {
            for (String[] row : FOLLOWERS) {
                for (int code = 33; code <= 126; code++) {
                    boolean allowed = row[1].indexOf(code) >= 0;
                    follows("", row[0], (char) code, allowed);
                    follows("s11/6,", row[0], (char) code, allowed);
                    follows("t0-1,".repeat(10), row[0], (char) code, allowed);
                }
            }
            error("xt0-1", 0);
            error("t0-1,x,y", 5);
            error(ELEVEN + "t0-1;", 59);
            error("~".repeat(60), 0);
        });
        edges.sentence("38",
                "the length of the text if there is no such character, but the text ends too early (this holds "
                + "for the empty text)", () -> {
            error("", 0);
            String moves = "t10-5,s11/6,m1+10,";
            for (int length = 1; length <= moves.length(); length++) {
                String start = moves.substring(0, length);
                boolean whole = length == 5 || length == 11 || length == 16 || length == 17;
                error(start, whole ? CairnGame.NONE : length);
            }
            error(ELEVEN + "t0-1,", 60);
            error(ELEVEN + "t0-", 58);
            error("m10+11," + "t10-1,".repeat(8) + "t0-1,", 60);
        });
        edges.sentence("38", "NONE if the text tells moves", () -> {
            tells("t0-1");
            tells(ELEVEN + "t0-1");
            tells(ELEVEN + "t10-1");
            tells("m0+0");
            edges.changesNothing("firstError()", () -> text("t0-1"), g -> g.firstError());
            edges.changesNothing("firstError(), a wrong text", () -> text("t0-x"), g -> g.firstError());
            edges.changesNothing("firstError(), no text", () -> text(""), g -> g.firstError());
        });
    }

    private static void follows(String before, String start, char sign, boolean allowed) {
        String text = before + start + sign;
        int got = text(text).firstError();
        if (allowed) {
            edges.holds(text + " goes on: " + got, got == text.length() || got == CairnGame.NONE);
        } else {
            edges.same("the first error of " + text, got, text.length() - 1);
        }
    }

    // ---- play

    private static void promise39() {
        edges.sentence("39",
                "up to the first one for which take(), split() or merge() would throw an exception", () -> {
            plays("no heap to take from", "t2-1,t0-1", 0, 6, 2);
            plays("more than the greatest take", "t0-1,t0-4", 1, 5, 2);
            plays("more than the heap has", "t1-3,t0-1", 0, 6, 2);
            plays("no heap to split", "s0/1,s3/1", 1, 1, 5, 2);
            plays("a first part that is too great", "s0/3,s0/2,t0-1", 1, 3, 3, 2);
            plays("no heap to merge", "m2+0", 0, 6, 2);
            plays("no other heap to merge", "m0+2", 0, 6, 2);
            plays("a heap with itself", "t0-1,m1+1,t0-1", 1, 5, 2);
            plays("a heap that is gone", "t1-2,t1-1", 1, 6);
            plays("the first heap that is gone", "t1-2,m0+1", 1, 6);
            CairnGame forbidden = Games.withText(Games.of(6, 2), "s0/1,m0+1,t0-1");
            edges.same("merging is forbidden", forbidden.play(), 1);
            edges.sizes("merging is forbidden", forbidden, 1, 5, 2);
            edges.same("splitting is forbidden", Games.withText(Games.takesOf(3, 6), "t0-1,s0/1").play(), 1);
        });
        edges.sentence("39", "the text becomes empty", () -> {
            for (String moves : new String[] {"t0-1", "t11-1", "m0+0", "t0-1,t11-1,t0-1"}) {
                CairnGame game = Games.withText(Games.of(6), moves);
                game.play();
                edges.same(moves, game.clearText(), 0);
            }
        });
        edges.sentence("39", "Undoable, as one call, also if no move is made.", () -> {
            for (int k = 0; k <= 7; k++) {
                int saved = k;
                for (String moves : new String[] {"t0-1", "t0-1,t0-1,t0-1", "t9-1"}) {
                    edges.saves(moves + " with " + saved + " saved", () -> Games.withText(Games.ones(saved), moves),
                            g -> g.play());
                }
            }
        });
        edges.sentence("39", "Returns the number of moves that are made.", () -> {
            plays("none", "t11-5", 0, 6, 2);
            plays("one", "t0-1", 1, 5, 2);
            CairnGame twelve = Games.withText(Games.ones(12), ELEVEN + "t0-1");
            edges.same("twelve, the most", twelve.play(), 12);
            edges.same("all gone", twelve.heaps(), 0);
            edges.same("the winner", twelve.winner(), 1);
            CairnGame over = Games.withText(Games.ones(11), ELEVEN + "t0-1");
            edges.same("the game is over before", over.play(), 11);
            edges.same("the winner then", over.winner(), 0);
            edges.same("no heaps at all", text("t0-1").play(), 0);
            edges.same("twelve in 60 characters", sixty().play(), 12);
            edges.same("heaps 10 and 11", Games.withText(Games.mergingOnes(12), "m11+10,t10-1,t9-1,m0+9").play(), 3);
        });
        edges.sentence("39", "Throws IllegalStateException if the text does not tell moves (then it stays)", () -> {
            String[] wrong = {"", "x", "t", "t0-", "t0-1,", "t0-1,x", "t0-1;", "t0-6", "m0+12", ELEVEN + "t0-1,",
                ELEVEN + "t0-1;", "~".repeat(60)};
            for (String text : wrong) {
                edges.refusesAsIs(text, Edges.STATE, () -> Games.withText(Games.of(6, 2), text), g -> g.play());
            }
            CairnGame game = Games.withText(Games.of(6), "t0-");
            boolean thrown = false;
            try {
                game.play();
            } catch (IllegalStateException e) {
                thrown = true;
            }
            edges.holds("thrown", thrown);
            game.append('2');
            edges.same("it goes on where it stayed", game.play(), 1);
            edges.same("stones then", game.stones(), 4);
        });
    }

    /** Of the text's moves, so many are made on heaps of 6 and 2 with merging, and these heaps are there then. */
    private static void plays(String what, String text, int due, int... sizesThen) {
        CairnGame game = Games.withText(Games.merging(6, 2), text);
        edges.same(what + ", " + text, game.play(), due);
        edges.sizes(what + ", " + text, game, sizesThen);
        edges.same(what + ", made", game.made(), due);
        edges.same(what + ", player", game.player(), due % 2);
    }
}
