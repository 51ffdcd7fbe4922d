/** The edges in 'Texts', and in promises 18 to 21. */
public final class TextsEdgesTest extends Calls {
    public static void main(String[] args) {
        checks = new Checks("TextsEdgesTest");
        emptyAtFirst();
        sixtyCharacters();
        anyCharacter();
        clearedAndWrittenAnew();
        lettersOfOrders();
        digitsAndTheirNeighbours();
        commasAndTheirNeighbours();
        endsAndTheirNeighbours();
        numbersOfOneOrTwoDigits();
        numbersWithNothingAhead();
        minusAheadOfTheDriftOnly();
        endsTooEarly();
        atTheSixtiethCharacter();
        positionOfTheFirstOfSeveral();
        positionOfEveryOrder();
        invalidInAText();
        notPossibleInAText();
        limitInAText();
        whenThoseAheadAreDone();
        whatTheFaultTells();
        faultDoesNothing();
        playOfNothing();
        playOfOneOrder();
        playOfManyOrders();
        playIsOneChange();
        playWithResamplingByItself();
        theTextStays();
        playUpToTheLastGeneration();
        checks.end();
    }

    private static void dueFault(ParticleLines x, String text, int position, int reason, int cause) {
        write(x, text);
        due(text + " fault(0)", x.fault(0), position);
        due(text + " fault(1)", x.fault(1), reason);
        due(text + " fault(2)", x.fault(2), cause);
        due(text + " play()", x.play(), NOT_POSSIBLE);
    }

    /** Breaks off at a character, also behind two orders that can be done. */
    private static void dueBreak(String text, int cause) {
        dueFault(new ParticleLines(), text, 0, 1, cause);
        dueFault(new ParticleLines(), "m1,1;r;" + text, 7, 1, cause);
    }

    private static void dueSound(ParticleLines x, String text, int orders) {
        write(x, text);
        for (int what = 0; what <= 2; what++) {
            due(text + " fault(" + what + ")", x.fault(what), NOT_FOUND);
        }
        due(text + " play()", x.play(), orders);
    }

    private static void emptyAtFirst() {
        checks.part("a text, initially empty");
        ParticleLines x = new ParticleLines();
        due("count(10)", x.count(10), 0);
        due("clearText()", x.clearText(), 0);
        for (int what = 0; what <= 2; what++) {
            due("fault(" + what + ")", x.fault(what), NOT_FOUND);
        }
        due("type('r')", x.type('r'), 1);
    }

    private static void sixtyCharacters() {
        checks.part("LIMIT_REACHED if it has 60 characters");
        ParticleLines x = new ParticleLines();
        for (int length = 1; length <= 60; length++) {
            due("type('r')", x.type('r'), length);
            due("count(10)", x.count(10), length);
        }
        due("type behind 60", x.type('r'), LIMIT);
        due("type of 31 behind 60", x.type(31), INVALID);
        due("count(10)", x.count(10), 60);
        due("clearText()", x.clearText(), 60);
        due("count(10)", x.count(10), 0);
        due("type behind clearText", x.type('r'), 1);
    }

    private static void anyCharacter() {
        checks.part("character: 32 to 126");
        for (int character = 32; character <= 126; character++) {
            ParticleLines x = new ParticleLines();
            due("type(" + character + ")", x.type(character), 1);
            boolean starts = character == 'm' || character == 'o' || character == 'r';
            due("fault(2) of " + character, x.fault(2), starts ? 1 : 0);
        }
    }

    private static void clearedAndWrittenAnew() {
        checks.part("clearText: empties the text");
        ParticleLines x = new ParticleLines();
        write(x, "r;r;r;x");
        due("clearText()", x.clearText(), 7);
        due("fault(0)", x.fault(0), NOT_FOUND);
        due("play()", x.play(), 0);
        // What was there behind the new end is gone.
        dueFault(x, "r;r", 2, 1, 1);
        due("clearText()", x.clearText(), 3);
        due("clearText() again", x.clearText(), 0);
    }

    private static void lettersOfOrders() {
        checks.part("\"m\", \"o\" or \"r\"");
        for (String text : new String[] {"l1,1;", "n1,1;", "p1,1;", "q;", "s;", "M1,1;", "O1,1;", "R;", ";", ",", "-1,1;",
            "1,1;", " r;"}) {
            dueBreak(text, 0);
        }
        dueBreak("r,", 1);
        dueBreak("r1,1;", 1);
        dueBreak("rr;", 1);
        dueBreak("mo1,1;", 1);
        dueBreak("r ;", 1);
    }

    private static void digitsAndTheirNeighbours() {
        checks.part("numbers of digits");
        for (char digit = '0'; digit <= '9'; digit++) {
            dueSound(new ParticleLines(), "m" + digit + "," + digit + ";", 1);
            dueSound(new ParticleLines(), "m" + digit + digit + "," + digit + digit + ";", 1);
        }
        dueBreak("m/,1;", 1);
        dueBreak("m:,1;", 1);
        dueBreak("m1/,1;", 2);
        dueBreak("m1:,1;", 2);
        dueBreak("m1,/;", 3);
        dueBreak("m1,:;", 3);
        dueBreak("o1,1/;", 4);
        dueBreak("o1,1:;", 4);
        dueBreak("m+1,1;", 1);
        dueBreak("m 1,1;", 1);
    }

    private static void commasAndTheirNeighbours() {
        checks.part("a number, \",\", a number");
        dueBreak("m1+1;", 2);
        dueBreak("m1-1;", 2);
        dueBreak("m1.1;", 2);
        dueBreak("m1;1;", 2);
        dueBreak("m1;", 2);
        dueBreak("m,1;", 1);
        dueBreak("o,1;", 1);
        dueBreak("m1,,1;", 3);
        dueBreak("m1, 1;", 3);
        dueBreak("m1,1,1;", 4);
        dueBreak("m12.1;", 3);
    }

    private static void endsAndTheirNeighbours() {
        checks.part("each followed by \";\"");
        dueBreak("r:", 1);
        dueBreak("r<", 1);
        dueBreak("m1,1:", 4);
        dueBreak("m1,1<", 4);
        dueBreak("o01,01,", 6);
        dueBreak("m1,1 ;", 4);
        dueBreak("m1,1m", 4);
        dueFault(new ParticleLines(), "r;;", 2, 1, 0);
        dueFault(new ParticleLines(), "r; r;", 2, 1, 0);
    }

    private static void numbersOfOneOrTwoDigits() {
        checks.part("numbers of 1 or 2 digits");
        dueBreak("m;", 1);
        dueBreak("m-;", 2);
        dueBreak("m1,;", 3);
        dueBreak("o;", 1);
        dueBreak("o1,;", 3);
        dueBreak("m100,1;", 3);
        dueBreak("m-100,1;", 4);
        dueBreak("m001,1;", 3);
        dueBreak("m1,001;", 5);
        dueBreak("m1,100;", 5);
        dueBreak("o100,1;", 3);
        dueBreak("o1,100;", 5);
        dueBreak("o01,001;", 6);
        ParticleLines x = new ParticleLines();
        dueSound(x, "m99,99;", 1);
        due("drift", x.generationOf(1, 1), 199);
        due("spread", x.generationOf(1, 2), 99);
        dueSound(x, "m-99,9;", 1);
        due("drift", x.generationOf(2, 1), 1);
        due("spread", x.generationOf(2, 2), 9);
    }

    private static void numbersWithNothingAhead() {
        checks.part("numbers, 0 ahead allowed");
        ParticleLines x = new ParticleLines();
        dueSound(x, "m05,07;", 1);
        due("drift", x.generationOf(1, 1), 105);
        due("spread", x.generationOf(1, 2), 7);
        dueSound(x, "m-05,00;", 1);
        due("drift", x.generationOf(2, 1), 95);
        due("spread", x.generationOf(2, 2), 0);
        dueSound(x, "m00,0;m-0,0;m-00,0;", 3);
        due("drift", x.generationOf(5, 1), 100);
        x.begin(2, 0, 1);
        x.set(0, 0);
        dueSound(x, "o00,02;", 1);
        dueAll("weights", weights(x), 2, 1);
        dueSound(x, "o1,01;", 1);
        dueAll("weights", weights(x), 0, 1);
    }

    private static void minusAheadOfTheDriftOnly() {
        checks.part("\"-\" may stand ahead of the drift");
        dueBreak("m1,-1;", 3);
        dueBreak("m-1,-1;", 4);
        dueBreak("o-1,1;", 1);
        dueBreak("o1,-1;", 3);
        dueBreak("m--1,1;", 2);
        dueBreak("m1-,1;", 2);
        dueBreak("r-;", 1);
        dueBreak("m-,1;", 2);
        ParticleLines x = new ParticleLines();
        dueSound(x, "m-1,0;m1,0;m-10,0;", 3);
        dueAll("places", places(x), 0, 0, 10, 20);
    }

    private static void endsTooEarly() {
        checks.part("of one that the text ends too early it is its length");
        for (String order : new String[] {"m-12,34;", "m1,2;", "o12,34;", "o1,2;", "r;"}) {
            for (int length = 1; length < order.length(); length++) {
                dueBreak(order.substring(0, length), length);
            }
            dueSound(new ParticleLines(), order, 1);
        }
    }

    private static void atTheSixtiethCharacter() {
        checks.part("faults at the end of a text of 60 characters");
        String nine = "m1,10;m1,10;m1,10;m1,10;m1,10;m1,10;m1,10;m1,10;m1,10;";
        dueSound(new ParticleLines(), nine + "m1,10;", 10);
        dueFault(new ParticleLines(), nine + "m-1,10", 54, 1, 6);
        dueFault(new ParticleLines(), nine + "m1,10x", 54, 1, 5);
        dueFault(new ParticleLines(), nine + "m1,1;x", 59, 1, 0);
        dueFault(new ParticleLines(), nine + "m1,1;r", 59, 1, 1);
        dueFault(new ParticleLines(), nine + "o1,00;", 54, 2, INVALID);
        dueSound(new ParticleLines(), nine + "r;r;r;", 12);
    }

    private static void positionOfTheFirstOfSeveral() {
        checks.part("the first order that is not possible");
        dueFault(new ParticleLines(), "x", 0, 1, 0);
        dueFault(new ParticleLines(), "r;x;y;", 2, 1, 0);
        dueFault(new ParticleLines(), "o1,0;x", 0, 2, INVALID);
        dueFault(new ParticleLines(), "r;o1,0;o99,1;", 2, 2, INVALID);
        dueFault(new ParticleLines(), "r;o99,1;o1,0;", 2, 2, NOT_POSSIBLE);
        dueFault(new ParticleLines(), "r;o99,1x;", 2, 1, 5);
        dueFault(new ParticleLines(), "r;o1,0", 2, 1, 4);
    }

    private static void positionOfEveryOrder() {
        checks.part("the position, from 0, of the first character of the order");
        StringBuilder ahead = new StringBuilder();
        for (int orders = 0; orders < 19; orders++) {
            dueFault(new ParticleLines(), ahead + "o1,0;", 2 * orders, 2, INVALID);
            dueFault(new ParticleLines(), ahead + "r", 2 * orders, 1, 1);
            ahead.append("r;");
        }
    }

    private static void invalidInAText() {
        checks.part("reason 2, INVALID_ARGUMENT");
        dueFault(new ParticleLines(), "o0,0;", 0, 2, INVALID);
        dueFault(new ParticleLines(), "o99,00;", 0, 2, INVALID);
        ParticleLines x = new ParticleLines();
        fill(x);
        dueFault(x, "o10,0;", 0, 2, INVALID);
    }

    private static void notPossibleInAText() {
        checks.part("reason 2, NOT_POSSIBLE");
        dueFault(new ParticleLines(), "o31,1;", 0, 2, NOT_POSSIBLE);
        dueFault(new ParticleLines(), "o99,69;", 0, 2, NOT_POSSIBLE);
        dueSound(new ParticleLines(), "o99,70;", 1);
        ParticleLines x = new ParticleLines();
        fill(x);
        dueFault(x, "o31,1;", 0, 2, NOT_POSSIBLE);
    }

    private static void limitInAText() {
        checks.part("reason 2, LIMIT_REACHED");
        ParticleLines x = new ParticleLines();
        fill(x);
        dueFault(x, "m0,0;", 0, 2, LIMIT);
        dueFault(x, "r;", 0, 2, LIMIT);
        dueFault(x, "o10,1;", 0, 2, LIMIT);
        dueFault(x, "o10,40;m0,0;", 7, 2, LIMIT);
        ParticleLines y = withWeights(1, 500001, 1);
        y.set(0, 0);
        dueFault(y, "o0,2;", 0, 2, LIMIT);
        dueFault(y, "o1,99;o0,2;", 0, 2, LIMIT);
    }

    private static void whenThoseAheadAreDone() {
        checks.part("2, when those ahead of it are done");
        // Only behind the move is it possible, or not.
        dueSound(new ParticleLines(), "m99,0;o99,1;", 2);
        dueFault(new ParticleLines(), "m99,0;o98,1;", 6, 2, NOT_POSSIBLE);
        dueFault(new ParticleLines(), "m99,0;o0,99;", 6, 2, NOT_POSSIBLE);
        dueFault(new ParticleLines(), "o0,1;o10,1;", 5, 2, NOT_POSSIBLE);
        dueSound(new ParticleLines(), "o0,1;o0,1;", 2);
        ParticleLines x = new ParticleLines();
        x.set(0, 0);
        dueFault(x, "o0,1;o10,1;", 5, 2, NOT_POSSIBLE);
        dueFault(x, "o0,1;r;o10,1;", 7, 2, NOT_POSSIBLE);
        fill(x);
        x.undo();
        dueFault(x, "r;r;", 2, 2, LIMIT);
        dueFault(x, "m0,0;m0,0;", 5, 2, LIMIT);
        dueFault(x, "m0,0;r;", 5, 2, LIMIT);
        ParticleLines y = withWeights(1, 250001, 1);
        y.set(0, 0);
        dueFault(y, "o0,2;o0,2;", 5, 2, LIMIT);
    }

    private static void whatTheFaultTells() {
        checks.part("fault: out of range rather than not found");
        ParticleLines x = new ParticleLines();
        int[] outside = {-1, 3, MIN, MAX};
        for (int what : outside) {
            due("of an empty text", x.fault(what), INVALID);
        }
        write(x, "r;");
        for (int what : outside) {
            due("of a sound text", x.fault(what), INVALID);
        }
        x.type('x');
        for (int what : outside) {
            due("of a faulty text", x.fault(what), INVALID);
        }
        due("fault(0)", x.fault(0), 2);
    }

    private static void faultDoesNothing() {
        checks.part("fault: tells, and does nothing");
        ParticleLines x = new ParticleLines();
        ParticleLines y = new ParticleLines();
        write(x, "m5,5;o20,9;r;x");
        write(y, "m5,5;o20,9;r;x");
        for (int time = 0; time < 3; time++) {
            for (int what = 0; what <= 2; what++) {
                x.fault(what);
            }
        }
        dueSame("behind fault", x, y);
        due("count(4)", x.count(4), 1);
        due("count(7)", x.count(7), 0);
        due("count(8)", x.count(8), 0);
    }

    private static void playOfNothing() {
        checks.part("they are one change, also if there are none");
        ParticleLines x = new ParticleLines();
        due("play()", x.play(), 0);
        due("count(9)", x.count(9), 1);
        due("play() again", x.play(), 0);
        due("count(9)", x.count(9), 2);
        due("count(1)", x.count(1), 1);
        due("count(4)", x.count(4), 1);
        due("undo()", x.undo(), 1);
        due("undo()", x.undo(), 0);
        due("undo()", x.undo(), NOT_POSSIBLE);
    }

    private static void playOfOneOrder() {
        checks.part("play of one order");
        ParticleLines x = new ParticleLines();
        dueSound(x, "r;", 1);
        due("count(8)", x.count(8), 1);
        dueSound(x, "m3,0;", 1);
        dueAll("places", places(x), 3, 13, 23, 33);
        dueSound(x, "o3,99;", 1);
        due("count(7)", x.count(7), 1);
        due("count(9)", x.count(9), 3);
    }

    private static void playOfManyOrders() {
        checks.part("returns how many there are in it");
        ParticleLines x = new ParticleLines();
        x.begin(1, 0, 0);
        x.set(0, 0);
        dueSound(x, "r;r;r;r;r;r;r;r;r;r;r;r;r;r;r;r;r;r;r;o0,9;o0,9;o0,9;o0,9;", 23);
        due("count(1)", x.count(1), 20);
        due("count(7)", x.count(7), 4);
        due("count(8)", x.count(8), 19);
        due("count(9)", x.count(9), 3);
        dueSound(x, "o0,1;o0,1;o0,1;o0,1;o0,1;o0,1;o0,1;o0,1;o0,1;o0,1;o0,1;o0,1;", 12);
        due("count(7)", x.count(7), 16);
    }

    private static void playIsOneChange() {
        checks.part("all orders are one change");
        ParticleLines x = new ParticleLines();
        x.move(4, 4);
        x.weigh(0, 3);
        write(x, "m1,1;m1,1;o20,30;r;m1,1;");
        due("play()", x.play(), 5);
        due("count(9)", x.count(9), 3);
        due("undo()", x.undo(), 2);
        due("count(1)", x.count(1), 2);
        due("count(7)", x.count(7), 0);
        due("count(8)", x.count(8), 0);
        due("count(4)", x.count(4), 38044);
        dueAll("weights", weights(x), 3, 1, 1, 1);
    }

    private static void playWithResamplingByItself() {
        checks.part("an observation in a text resamples, too");
        ParticleLines x = new ParticleLines();
        dueSound(x, "o0,1;m5,0;", 2);
        due("count(1)", x.count(1), 3);
        due("count(8)", x.count(8), 1);
        dueAll("places", places(x), 5, 5, 5, 5);
        due("root()", x.root(), 0);
    }

    private static void theTextStays() {
        checks.part("the text stays");
        ParticleLines x = new ParticleLines();
        dueSound(x, "m1,0;", 1);
        due("count(10)", x.count(10), 5);
        due("play() again", x.play(), 1);
        dueAll("places", places(x), 2, 12, 22, 32);
        x.undo();
        due("count(10) behind undo", x.count(10), 5);
        x.begin(1, 0, 0);
        due("count(10) behind begin", x.count(10), 5);
        due("play() behind begin", x.play(), 1);
        dueAll("places", places(x), 1);
    }

    private static void playUpToTheLastGeneration() {
        checks.part("play up to the last generation");
        ParticleLines x = new ParticleLines();
        write(x, "m1,0;r;m1,0;r;m1,0;");
        due("play()", x.play(), 5);
        due("play()", x.play(), 5);
        due("play()", x.play(), 5);
        due("count(1)", x.count(1), 16);
        due("play() beyond", x.play(), NOT_POSSIBLE);
        due("fault(0)", x.fault(0), 14);
        due("fault(1)", x.fault(1), 2);
        due("fault(2)", x.fault(2), LIMIT);
        due("count(1)", x.count(1), 16);
        dueSound(x, "m1,0;r;m1,0;r;", 4);
        due("count(1)", x.count(1), 20);
        due("play() beyond", x.play(), NOT_POSSIBLE);
        due("fault(0)", x.fault(0), 0);
    }
}
