import java.util.Random;
import java.util.function.IntSupplier;

/** All promises: drawn runs of 512 calls, each answer held against that of the model. */
public final class ModelTest {
    private static final int RUNS = 3000;
    private static final int CALLS = 512;

    private static final Due due = new Due();
    private static boolean mapStashSeen;
    private static boolean dataStashSeen;

    private final Random random;
    private final VeiledFiles files = new VeiledFiles();
    private final Model model = new Model();
    private final StringBuilder log = new StringBuilder();
    /** How rarely, in thousandths, a word of the store is altered. */
    private final int spoilRate;

    private ModelTest(int run) {
        random = new Random(run);
        spoilRate = new int[] {0, 0, 3, 20}[run % 4];
        log.append("run ").append(run).append(':');
    }

    public static void main(String[] args) {
        for (int run = 0; run < RUNS && due.allWell(); run++) {
            new ModelTest(run).go();
        }
        due.is("a block of the map was left in the stash", mapStashSeen, true);
        due.is("a block of data was left in the stash", dataStashSeen, true);
        due.end();
    }

    private void go() {
        for (int call = 0; call < CALLS && due.allWell(); call++) {
            step();
        }
    }

    private void step() {
        int pick = random.nextInt(1000);
        if (pick < 3) {
            stepStart();
        } else if (pick < 3 + spoilRate) {
            stepAlter();
        } else if (pick < 100) {
            stepBook();
        } else if (pick < 450) {
            stepWrite();
        } else if (pick < 650) {
            stepRead();
        } else if (pick < 700) {
            same("idle()", asInt(files::idle), asInt(model::idle));
        } else {
            stepLook();
        }
    }

    private void stepStart() {
        int seed = random.nextInt(4) == 0 ? 0 : random.nextInt();
        int key = random.nextInt();
        same("start(" + seed + ", " + key + ")",
                asInt(() -> files.start(seed, key)), asInt(() -> model.start(seed, key)));
    }

    private void stepAlter() {
        int tree = tree();
        int bucket = bucket();
        int i = random.nextInt(27) - 1;
        int v = random.nextInt(3) == 0 ? wordOrZero(tree, bucket, i) : random.nextInt();
        same("alter(" + tree + ", " + bucket + ", " + i + ", " + v + ")",
                () -> files.alter(tree, bucket, i, v) ? 1 : 0,
                () -> model.alter(tree, bucket, i, v) ? 1 : 0);
    }

    private int wordOrZero(int tree, int bucket, int i) {
        try {
            return model.sealed(tree, bucket, i);
        } catch (IndexOutOfBoundsException e) {
            return 0;
        }
    }

    private void stepBook() {
        long name = random.nextInt(12) - 2L << (random.nextBoolean() ? 32 : 0);
        int file = file();
        switch (random.nextInt(5)) {
            case 0:
                same("find(" + name + ")", () -> files.find(name), () -> model.find(name));
                break;
            case 1:
                if (random.nextInt(3) == 0) {
                    same("remove(" + file + ")",
                            () -> files.remove(file) ? 1 : 0, () -> model.remove(file) ? 1 : 0);
                }
                break;
            case 2:
                same("size(" + file + ")", () -> files.size(file), () -> model.size(file));
                break;
            default:
                same("create(" + name + ")", () -> files.create(name), () -> model.create(name));
        }
    }

    private void stepWrite() {
        int file = file();
        int size = model.size(file);
        int i = random.nextInt(3) == 0 ? random.nextInt(27) - 1 : size;
        int v = random.nextInt();
        same("write(" + file + ", " + i + ", " + v + ")",
                asInt(() -> files.write(file, i, v)), asInt(() -> model.write(file, i, v)));
    }

    private void stepRead() {
        int file = file();
        int i = random.nextInt(Math.max(1, model.size(file)) + 2) - 1;
        same("read(" + file + ", " + i + ")", () -> files.read(file, i), () -> model.read(file, i));
    }

    private void stepLook() {
        int tree = tree();
        int bucket = bucket();
        int i = random.nextInt(27) - 1;
        int k = random.nextInt(70) - 2;
        int what = random.nextInt(6) - 1;
        switch (random.nextInt(6)) {
            case 0:
                same("counter(" + tree + ", " + bucket + ")",
                        () -> files.counter(tree, bucket), () -> model.counter(tree, bucket));
                break;
            case 1:
                same("trace(" + k + ", " + what + ")",
                        () -> files.trace(k, what), () -> model.trace(k, what));
                break;
            case 2:
                same("stash(" + tree + ")", () -> files.stash(tree), () -> model.stash(tree));
                mapStashSeen |= model.stash(0) > 0;
                dataStashSeen |= model.stash(1) > 0;
                break;
            case 3:
                same("state(" + what + ")", () -> files.state(what), () -> model.state(what));
                break;
            default:
                same("sealed(" + tree + ", " + bucket + ", " + i + ")",
                        () -> files.sealed(tree, bucket, i), () -> model.sealed(tree, bucket, i));
        }
    }

    private int file() {
        return random.nextInt(30) == 0 ? random.nextInt(14) - 3 : random.nextInt(8);
    }

    private int tree() {
        return random.nextInt(30) == 0 ? random.nextInt(6) - 2 : random.nextInt(2);
    }

    /** The upper buckets more often: every access goes over them. */
    private int bucket() {
        return random.nextBoolean() ? random.nextInt(8) : random.nextInt(67) - 2;
    }

    private static IntSupplier asInt(Runnable run) {
        return () -> {
            run.run();
            return 0;
        };
    }

    private void same(String call, IntSupplier got, IntSupplier want) {
        String answer = answerOf(got);
        log.append(' ').append(call).append(" = ").append(answer).append(';');
        due.is(call, answer, answerOf(want));
        if (!due.allWell()) {
            System.out.println(log);
        }
    }

    private static String answerOf(IntSupplier call) {
        try {
            return Integer.toString(call.getAsInt());
        } catch (RuntimeException e) {
            return "throws." + e.getClass().getSimpleName();
        }
    }
}
